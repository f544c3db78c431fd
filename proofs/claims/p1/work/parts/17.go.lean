def wo_m_go : List Cond := [.methodLink RX12 302 yX12_goMinute, .instanceMethod yX12_goMinute, .selects RX12 yX12_goMinute yX12_goMinute, .initialized RX12]
def wm_m_go : List Cond := .code yX12_go cX12_go 3 none :: (wo_m_go ++ (wm_m_goMinute ++ ([] : List Cond)))
theorem gd_m_go : ∀ w ∈ wm_m_go, goodWord w = true := gd_c rfl (gd_a (by decide) (gd_a gd_m_goMinute gd_nil))
set_option maxRecDepth 20000 in
theorem im_m_go : ∀ w ∈ wm_m_go, w ∈ lw_tbl := im_c (in_r [.code yX12_go cX12_go 3 none] [1539] (by decide +kernel)) (in_app (in_r wo_m_go [1540, 1542, 45, 86] (by decide +kernel)) (in_app im_m_goMinute im_nil))
set_option maxHeartbeats 4000000 in
set_option maxRecDepth 100000 in
theorem m_go (l : Launch) (dC : Nat → ClassId) (dI : Nat → Nat → Nat) (ad av : Nat → Nat) (sz : Nat) (h0 : Nat) (a : Nat → Nat) (k : Nat → ClassId) (th : Int32) (fo : Int32) (rm : Int32) (fw : Nat → Int32) (p0 : Int32) (h1 : 0 ≤ p0) (h2 : p0 ≤ 960) (h3 : fw 0 = 0) : Met l yX12_go wm_m_go ({ frames := 2, cells := 0, slots := 0, locals := 60 }) (pr_ ad av (dC, dI) sz [.ref h0, .int p0] [(h0, .inr (12, [.ref (a 0), .int 0, .ref (a 2), .ref (a 3), .ref (a 4), .int 0, .ref (a 6), .ref (a 7), .ref (a 8), .int 0, .ref (a 10), .ref (a 11), .ref (a 12), .ref (a 13), .ref (a 14), .ref (a 15), .ref (a 16), .ref (a 17), .ref (a 18), .int 0, .ref (a 20), .ref (a 21), .ref (a 22), .ref (a 23), .int 0, .ref (a 25), .ref (a 26), .ref (a 27), .ref (a 28), .ref (a 29), .int 0, .int 99, .ref (a 32), .ref (a 33), .int 0, .ref (a 35), .int rm, .int th, .ref (a 38), .ref (a 39), .int fo, .ref (a 41), .null, .int 0, .int 0, .int 0, .int 0, .null, .ref (a 48), .ref (a 49), .ref (a 50), .int 0, .int 0, .ref (a 53), .ref (a 54), .int 0, .int 0, .int 0])), ((a 38), .inl ((k 38), 199, .inl fw))] [((k 38), .int)]) (va_Qv (fun (_ : Unit) => True) (fun (_ : Unit) (t : State) => (∃ (f1 : Nat → Int32), f1 0 = p0 ∧ po_ (dC, dI) (va_A [(h0, .inr (12, [.ref (a 0), .int 0, .ref (a 2), .ref (a 3), .ref (a 4), .int 0, .ref (a 6), .ref (a 7), .ref (a 8), .int 0, .ref (a 10), .ref (a 11), .ref (a 12), .ref (a 13), .ref (a 14), .ref (a 15), .ref (a 16), .ref (a 17), .ref (a 18), .int 0, .ref (a 20), .ref (a 21), .ref (a 22), .ref (a 23), .int 0, .ref (a 25), .ref (a 26), .ref (a 27), .ref (a 28), .ref (a 29), .int 0, .int 99, .ref (a 32), .ref (a 33), .int 0, .ref (a 35), .int rm, .int th, .ref (a 38), .ref (a 39), .int fo, .ref (a 41), .null, .int 0, .int 0, .int 0, .int 0, .null, .ref (a 48), .ref (a 49), .ref (a 50), .int 0, .int 0, .ref (a 53), .ref (a 54), .int 0, .int 0, .int 0])), ((a 38), .inl ((k 38), 199, .inl fw))] sz) [(h0, .inr (12, [.ref (a 0), .int 0, .ref (a 2), .ref (a 3), .ref (a 4), .int 0, .ref (a 6), .ref (a 7), .ref (a 8), .int 0, .ref (a 10), .ref (a 11), .ref (a 12), .ref (a 13), .ref (a 14), .ref (a 15), .ref (a 16), .ref (a 17), .ref (a 18), .int 0, .ref (a 20), .ref (a 21), .ref (a 22), .ref (a 23), .int 0, .ref (a 25), .ref (a 26), .ref (a 27), .ref (a 28), .ref (a 29), .int 0, .int 99, .ref (a 32), .ref (a 33), .int 0, .ref (a 35), .int rm, .int th, .ref (a 38), .ref (a 39), .int fo, .ref (a 41), .null, .int 0, .int 0, .int 0, .int 0, .null, .ref (a 48), .ref (a 49), .ref (a 50), .int 0, .int 0, .ref (a 53), .ref (a 54), .int 0, .int 0, .int 0])), ((a 38), .inl ((k 38), 199, .inl f1))] [((k 38), .int)] t)) (va_A [(h0, .inr (12, [.ref (a 0), .int 0, .ref (a 2), .ref (a 3), .ref (a 4), .int 0, .ref (a 6), .ref (a 7), .ref (a 8), .int 0, .ref (a 10), .ref (a 11), .ref (a 12), .ref (a 13), .ref (a 14), .ref (a 15), .ref (a 16), .ref (a 17), .ref (a 18), .int 0, .ref (a 20), .ref (a 21), .ref (a 22), .ref (a 23), .int 0, .ref (a 25), .ref (a 26), .ref (a 27), .ref (a 28), .ref (a 29), .int 0, .int 99, .ref (a 32), .ref (a 33), .int 0, .ref (a 35), .int rm, .int th, .ref (a 38), .ref (a 39), .int fo, .ref (a 41), .null, .int 0, .int 0, .int 0, .int 0, .null, .ref (a 48), .ref (a 49), .ref (a 50), .int 0, .int 0, .ref (a 53), .ref (a 54), .int 0, .int 0, .int 0])), ((a 38), .inl ((k 38), 199, .inl fw))] sz)) 0 0 (va_A [(h0, .inr (12, [.ref (a 0), .int 0, .ref (a 2), .ref (a 3), .ref (a 4), .int 0, .ref (a 6), .ref (a 7), .ref (a 8), .int 0, .ref (a 10), .ref (a 11), .ref (a 12), .ref (a 13), .ref (a 14), .ref (a 15), .ref (a 16), .ref (a 17), .ref (a 18), .int 0, .ref (a 20), .ref (a 21), .ref (a 22), .ref (a 23), .int 0, .ref (a 25), .ref (a 26), .ref (a 27), .ref (a 28), .ref (a 29), .int 0, .int 99, .ref (a 32), .ref (a 33), .int 0, .ref (a 35), .int rm, .int th, .ref (a 38), .ref (a 39), .int fo, .ref (a 41), .null, .int 0, .int 0, .int 0, .int 0, .null, .ref (a 48), .ref (a 49), .ref (a 50), .int 0, .int 0, .ref (a 53), .ref (a 54), .int 0, .int 0, .int 0])), ((a 38), .inl ((k 38), 199, .inl fw))] sz) := by
  refine Met.ofW (cc := cX12_go) (maxL := 3) (ret := none) (by decide) rfl ?_
  intro p e s m args below meth c s₁ B hml hv
  obtain ⟨rfl, hsz, hP, hK, hD0, hM⟩ := hv
  have hx := B.exec
  have hb := B.bytes
  have hr := B.returns
  have hts := atoms_spec (ws := wm_m_go) B.pre
  have hown : s.vm.findClass RX12 = some m.cls := findClass_of_methodNamed B.named
  have hlocks := B.notSynchronized
  subst hsz
  have hD := hD0.self (sz := s.heap.size)
  generalize hAe : va_A [(h0, .inr (12, [.ref (a 0), .int 0, .ref (a 2), .ref (a 3), .ref (a 4), .int 0, .ref (a 6), .ref (a 7), .ref (a 8), .int 0, .ref (a 10), .ref (a 11), .ref (a 12), .ref (a 13), .ref (a 14), .ref (a 15), .ref (a 16), .ref (a 17), .ref (a 18), .int 0, .ref (a 20), .ref (a 21), .ref (a 22), .ref (a 23), .int 0, .ref (a 25), .ref (a 26), .ref (a 27), .ref (a 28), .ref (a 29), .int 0, .int 99, .ref (a 32), .ref (a 33), .int 0, .ref (a 35), .int rm, .int th, .ref (a 38), .ref (a 39), .int fo, .ref (a 41), .null, .int 0, .int 0, .int 0, .int 0, .null, .ref (a 48), .ref (a 49), .ref (a 50), .int 0, .int 0, .ref (a 53), .ref (a 54), .int 0, .int 0, .int 0])), ((a 38), .inl ((k 38), 199, .inl fw))] s.heap.size = A at hD hM ⊢
  have hA : ∀ q : Nat, s.heap.size ≤ q → A q := fun q h => by rw [← hAe]; exact Or.inr h
  have hS : va_S A s.heap s.heap [] := va_S.rf
  have hP : va_P (dC, dI) vwCl [(h0, .inr (12, [.ref (a 0), .int 0, .ref (a 2), .ref (a 3), .ref (a 4), .int 0, .ref (a 6), .ref (a 7), .ref (a 8), .int 0, .ref (a 10), .ref (a 11), .ref (a 12), .ref (a 13), .ref (a 14), .ref (a 15), .ref (a 16), .ref (a 17), .ref (a 18), .int 0, .ref (a 20), .ref (a 21), .ref (a 22), .ref (a 23), .int 0, .ref (a 25), .ref (a 26), .ref (a 27), .ref (a 28), .ref (a 29), .int 0, .int 99, .ref (a 32), .ref (a 33), .int 0, .ref (a 35), .int rm, .int th, .ref (a 38), .ref (a 39), .int fo, .ref (a 41), .null, .int 0, .int 0, .int 0, .int 0, .null, .ref (a 48), .ref (a 49), .ref (a 50), .int 0, .int 0, .ref (a 53), .ref (a 54), .int 0, .int 0, .int 0])), ((a 38), .inl ((k 38), 199, .inl fw))] s.heap := hP
  have hl := lv_entry ([.ref h0, .int p0]) (n := 3) (Nat.le_of_ble_eq_true rfl)
  rw [lg_entry_eq]
  generalize (lg_sl ([.ref h0, .int p0]) ++ List.replicate (3 - (lg_sl ([.ref h0, .int p0])).length) Slot.unset).toArray = ls at hl ⊢
  have hl : lv_has ls 3 [(0, .ref h0), (1, .int p0)] := hl
  obtain ⟨nm, hnm, hpn⟩ := nI_of2 (M := 960) (n := 960) (by decide) (Int32.not_lt.mpr h1) h2
  subst hpn
  refine lv_iconst (v := 0) hx hb dX12_go_0 (by decide) ?_
  refine lv_istore_n (lv' := [(2, .int 0), (0, .ref h0), (1, .int (nI nm))]) hx hb dX12_go_1 rfl hl (by decide) rfl (fun ls hl => ?_)
  have loop_2 : ∀ (n : Nat) (j : Nat) (fj : Nat → Int32) (H : Heap) (locs : List Loc) (ls : Array Slot), nm - j < n → j ≤ nm → fj 0 = nI j → va_K (dC, dI) vwCl [((k 38), .int)] s → va_P (dC, dI) vwCl [(h0, .inr (12, [.ref (a 0), .int 0, .ref (a 2), .ref (a 3), .ref (a 4), .int 0, .ref (a 6), .ref (a 7), .ref (a 8), .int 0, .ref (a 10), .ref (a 11), .ref (a 12), .ref (a 13), .ref (a 14), .ref (a 15), .ref (a 16), .ref (a 17), .ref (a 18), .int 0, .ref (a 20), .ref (a 21), .ref (a 22), .ref (a 23), .int 0, .ref (a 25), .ref (a 26), .ref (a 27), .ref (a 28), .ref (a 29), .int 0, .int 99, .ref (a 32), .ref (a 33), .int 0, .ref (a 35), .int rm, .int th, .ref (a 38), .ref (a 39), .int fo, .ref (a 41), .null, .int 0, .int 0, .int 0, .int 0, .null, .ref (a 48), .ref (a 49), .ref (a 50), .int 0, .int 0, .ref (a 53), .ref (a 54), .int 0, .int 0, .int 0])), ((a 38), .inl ((k 38), 199, .inl fj))] H → va_D A [(h0, .inr (12, [.ref (a 0), .int 0, .ref (a 2), .ref (a 3), .ref (a 4), .int 0, .ref (a 6), .ref (a 7), .ref (a 8), .int 0, .ref (a 10), .ref (a 11), .ref (a 12), .ref (a 13), .ref (a 14), .ref (a 15), .ref (a 16), .ref (a 17), .ref (a 18), .int 0, .ref (a 20), .ref (a 21), .ref (a 22), .ref (a 23), .int 0, .ref (a 25), .ref (a 26), .ref (a 27), .ref (a 28), .ref (a 29), .int 0, .int 99, .ref (a 32), .ref (a 33), .int 0, .ref (a 35), .int rm, .int th, .ref (a 38), .ref (a 39), .int fo, .ref (a 41), .null, .int 0, .int 0, .int 0, .int 0, .null, .ref (a 48), .ref (a 49), .ref (a 50), .int 0, .int 0, .ref (a 53), .ref (a 54), .int 0, .int 0, .int 0])), ((a 38), .inl ((k 38), 199, .inl fj))] → va_S A s.heap H locs → lv_has ls 3 [(0, .ref h0), (1, .int (nI nm)), (2, .int (nI j))] → W p l e (headSpec wm_m_go ({ frames := 2, cells := 0, slots := 0, locals := 60 })).room s m ([.ref h0, .int (nI nm)] : List Value).toArray below meth c H locs 0 0 (MQ below (va_Qv (fun (_ : Unit) => True) (fun (_ : Unit) (t : State) => (∃ (f1 : Nat → Int32), f1 0 = nI nm ∧ po_ (dC, dI) A [(h0, .inr (12, [.ref (a 0), .int 0, .ref (a 2), .ref (a 3), .ref (a 4), .int 0, .ref (a 6), .ref (a 7), .ref (a 8), .int 0, .ref (a 10), .ref (a 11), .ref (a 12), .ref (a 13), .ref (a 14), .ref (a 15), .ref (a 16), .ref (a 17), .ref (a 18), .int 0, .ref (a 20), .ref (a 21), .ref (a 22), .ref (a 23), .int 0, .ref (a 25), .ref (a 26), .ref (a 27), .ref (a 28), .ref (a 29), .int 0, .int 99, .ref (a 32), .ref (a 33), .int 0, .ref (a 35), .int rm, .int th, .ref (a 38), .ref (a 39), .int fo, .ref (a 41), .null, .int 0, .int 0, .int 0, .int 0, .null, .ref (a 48), .ref (a 49), .ref (a 50), .int 0, .int 0, .ref (a 53), .ref (a 54), .int 0, .int 0, .int 0])), ((a 38), .inl ((k 38), 199, .inl f1))] [((k 38), .int)] t)) A) ([.ref h0, .int (nI nm)] : List Value).toArray s 0 0 A) (F0 m 2 ls []) := by
    intro n
    induction n with
    | zero => intro j fj H locs ls hlt; exact absurd hlt (Nat.not_lt_zero _)
    | succ n ih_2 =>
      intro j fj H locs ls hlt hj hf hK hP hD hS hl
      refine lv_iload_n hx hb dX12_go_2 rfl (lv_at hl 2 rfl) ?_
      refine lv_iload_n hx hb dX12_go_3 rfl (lv_at hl 1 rfl) ?_
      refine lv_icmp_ge (tgt := 17) hx hb dX12_go_4 (by decide) (fun c_1 => ?_) (fun c_1 => ?_)
      · have hn_c_1 := q_le nm j c_1 rfl rfl (by omega) (by omega)
        have hP9 := hP.sub (ws' := [(h0, .inr (12, [.ref (a 0), .int 0, .ref (a 2), .ref (a 3), .ref (a 4), .int 0, .ref (a 6), .ref (a 7), .ref (a 8), .int 0, .ref (a 10), .ref (a 11), .ref (a 12), .ref (a 13), .ref (a 14), .ref (a 15), .ref (a 16), .ref (a 17), .ref (a 18), .int 0, .ref (a 20), .ref (a 21), .ref (a 22), .ref (a 23), .int 0, .ref (a 25), .ref (a 26), .ref (a 27), .ref (a 28), .ref (a 29), .int 0, .int 99, .ref (a 32), .ref (a 33), .int 0, .ref (a 35), .int rm, .int th, .ref (a 38), .ref (a 39), .int fo, .ref (a 41), .null, .int 0, .int 0, .int 0, .int 0, .null, .ref (a 48), .ref (a 49), .ref (a 50), .int 0, .int 0, .ref (a 53), .ref (a 54), .int 0, .int 0, .int 0])), ((a 38), .inl ((k 38), 199, .inl fj))]) [0, 1] rfl
        have hD9 := hD.sub (ws' := [(h0, .inr (12, [.ref (a 0), .int 0, .ref (a 2), .ref (a 3), .ref (a 4), .int 0, .ref (a 6), .ref (a 7), .ref (a 8), .int 0, .ref (a 10), .ref (a 11), .ref (a 12), .ref (a 13), .ref (a 14), .ref (a 15), .ref (a 16), .ref (a 17), .ref (a 18), .int 0, .ref (a 20), .ref (a 21), .ref (a 22), .ref (a 23), .int 0, .ref (a 25), .ref (a 26), .ref (a 27), .ref (a 28), .ref (a 29), .int 0, .int 99, .ref (a 32), .ref (a 33), .int 0, .ref (a 35), .int rm, .int th, .ref (a 38), .ref (a 39), .int fo, .ref (a 41), .null, .int 0, .int 0, .int 0, .int 0, .null, .ref (a 48), .ref (a 49), .ref (a 50), .int 0, .int 0, .ref (a 53), .ref (a 54), .int 0, .int 0, .int 0])), ((a 38), .inl ((k 38), 199, .inl fj))]) [0, 1] (by decide) rfl
        have hK9 := hK.sub (tys' := [((k 38), .int)]) [0] rfl
        exact W.vret hx hb hr (fun t ht hW => ⟨⟨(), rfl, trivial, ⟨fj, (by rw [hf, show j = nm by omega]), by rw [ht]; exact hP9, va_K.moved hW.alike hK9, hD9⟩⟩, hS.F ht⟩) hS.2.2 dX12_go_17
      · have hn_c_1 := q_nle nm j c_1 rfl rfl (by omega) (by omega)
        refine lv_aload_n hx hb dX12_go_7 rfl (lv_at hl 0 rfl) ?_
        have hPc := hP.sub (ws' := [(h0, .inr (12, [.ref (a 0), .int 0, .ref (a 2), .ref (a 3), .ref (a 4), .int 0, .ref (a 6), .ref (a 7), .ref (a 8), .int 0, .ref (a 10), .ref (a 11), .ref (a 12), .ref (a 13), .ref (a 14), .ref (a 15), .ref (a 16), .ref (a 17), .ref (a 18), .int 0, .ref (a 20), .ref (a 21), .ref (a 22), .ref (a 23), .int 0, .ref (a 25), .ref (a 26), .ref (a 27), .ref (a 28), .ref (a 29), .int 0, .int 99, .ref (a 32), .ref (a 33), .int 0, .ref (a 35), .int rm, .int th, .ref (a 38), .ref (a 39), .int fo, .ref (a 41), .null, .int 0, .int 0, .int 0, .int 0, .null, .ref (a 48), .ref (a 49), .ref (a 50), .int 0, .int 0, .ref (a 53), .ref (a 54), .int 0, .int 0, .int 0])), ((a 38), .inl ((k 38), 199, .inl fj))]) [0, 1] rfl
        have hDc := hD.sub (ws' := [(h0, .inr (12, [.ref (a 0), .int 0, .ref (a 2), .ref (a 3), .ref (a 4), .int 0, .ref (a 6), .ref (a 7), .ref (a 8), .int 0, .ref (a 10), .ref (a 11), .ref (a 12), .ref (a 13), .ref (a 14), .ref (a 15), .ref (a 16), .ref (a 17), .ref (a 18), .int 0, .ref (a 20), .ref (a 21), .ref (a 22), .ref (a 23), .int 0, .ref (a 25), .ref (a 26), .ref (a 27), .ref (a 28), .ref (a 29), .int 0, .int 99, .ref (a 32), .ref (a 33), .int 0, .ref (a 35), .int rm, .int th, .ref (a 38), .ref (a 39), .int fo, .ref (a 41), .null, .int 0, .int 0, .int 0, .int 0, .null, .ref (a 48), .ref (a 49), .ref (a 50), .int 0, .int 0, .ref (a 53), .ref (a 54), .int 0, .int 0, .int 0])), ((a 38), .inl ((k 38), 199, .inl fj))]) [0, 1] (by decide) rfl
        have hKc := hK.sub (tys' := [((k 38), .int)]) [0] rfl
        have hFc := va_free (wc := [(h0, .inr (12, [.ref (a 0), .int 0, .ref (a 2), .ref (a 3), .ref (a 4), .int 0, .ref (a 6), .ref (a 7), .ref (a 8), .int 0, .ref (a 10), .ref (a 11), .ref (a 12), .ref (a 13), .ref (a 14), .ref (a 15), .ref (a 16), .ref (a 17), .ref (a 18), .int 0, .ref (a 20), .ref (a 21), .ref (a 22), .ref (a 23), .int 0, .ref (a 25), .ref (a 26), .ref (a 27), .ref (a 28), .ref (a 29), .int 0, .int 99, .ref (a 32), .ref (a 33), .int 0, .ref (a 35), .int rm, .int th, .ref (a 38), .ref (a 39), .int fo, .ref (a 41), .null, .int 0, .int 0, .int 0, .int 0, .null, .ref (a 48), .ref (a 49), .ref (a 50), .int 0, .int 0, .ref (a 53), .ref (a 54), .int 0, .int 0, .int 0])), ((a 38), .inl ((k 38), 199, .inl fj))]) hD hS hA [0, 1] rfl
        refine va_callv (va_runV (As := []) (rest := []) ⟨hx, hb, hml, hown, hts⟩ (m_goMinute l dC dI ad av H.size h0 a k th fo rm fj ) (cwV 0 hts (gi_4 (List.mem_cons_of_mem _ (List.mem_append_left _ (List.mem_of_getElem? (i := 0) rfl))) (List.mem_cons_of_mem _ (List.mem_append_left _ (List.mem_of_getElem? (i := 1) rfl))) (List.mem_cons_of_mem _ (List.mem_append_left _ (List.mem_of_getElem? (i := 2) rfl))) (List.mem_cons_of_mem _ (List.mem_append_left _ (List.mem_of_getElem? (i := 3) rfl))) (fun _ hh => (List.mem_cons_of_mem _ (List.mem_append_right _ (List.mem_append_left _ hh)))) gd_m_goMinute) rfl rfl rfl (by decide +kernel) ⟨Nat.le_of_ble_eq_true rfl, Nat.le_of_ble_eq_true rfl⟩) ⟨pr_blind, va_recv hKc hPc (ci := 12) (q0 := 0) rfl rfl, pr_use hPc hKc hDc hFc hS hM⟩ rfl rfl hl.1 rfl (lv_room (Nat.le_of_ble_eq_true rfl)) dX12_go_8 ⟨Nat.le_of_ble_eq_true rfl, Nat.le_of_ble_eq_true rfl⟩) hS (fun q _ h => hFc q h) hFc (fun u t H locs ht hvm hw hB hz1 hk1 hS => ?_)
        refine W.widen (k := 0) (n := 0) (Nat.le_of_ble_eq_true rfl) (Nat.le_of_ble_eq_true rfl) ?_
        obtain ⟨f_3, hf_5, hP1, hK1, hD1⟩ := hB
        rw [ht] at hP1
        have hK1 := va_K.moved hvm.symm hK1
        obtain ⟨hP, hD⟩ := va_join (wr := []) (w1 := [(h0, .inr (12, [.ref (a 0), .int 0, .ref (a 2), .ref (a 3), .ref (a 4), .int 0, .ref (a 6), .ref (a 7), .ref (a 8), .int 0, .ref (a 10), .ref (a 11), .ref (a 12), .ref (a 13), .ref (a 14), .ref (a 15), .ref (a 16), .ref (a 17), .ref (a 18), .int 0, .ref (a 20), .ref (a 21), .ref (a 22), .ref (a 23), .int 0, .ref (a 25), .ref (a 26), .ref (a 27), .ref (a 28), .ref (a 29), .int 0, .int 99, .ref (a 32), .ref (a 33), .int 0, .ref (a 35), .int rm, .int th, .ref (a 38), .ref (a 39), .int fo, .ref (a 41), .null, .int 0, .int 0, .int 0, .int 0, .null, .ref (a 48), .ref (a 49), .ref (a 50), .int 0, .int 0, .ref (a 53), .ref (a 54), .int 0, .int 0, .int 0])), ((a 38), .inl ((k 38), 199, .inl f_3))]) hP hD [0, 1] [] rfl rfl (by decide) (by decide) hk1 hFc hP1 hD1
        have hK := (hK.sub (tys' := []) [] rfl).app hK1
        have hP : va_P (dC, dI) vwCl [(h0, .inr (12, [.ref (a 0), .int 0, .ref (a 2), .ref (a 3), .ref (a 4), .int 0, .ref (a 6), .ref (a 7), .ref (a 8), .int 0, .ref (a 10), .ref (a 11), .ref (a 12), .ref (a 13), .ref (a 14), .ref (a 15), .ref (a 16), .ref (a 17), .ref (a 18), .int 0, .ref (a 20), .ref (a 21), .ref (a 22), .ref (a 23), .int 0, .ref (a 25), .ref (a 26), .ref (a 27), .ref (a 28), .ref (a 29), .int 0, .int 99, .ref (a 32), .ref (a 33), .int 0, .ref (a 35), .int rm, .int th, .ref (a 38), .ref (a 39), .int fo, .ref (a 41), .null, .int 0, .int 0, .int 0, .int 0, .null, .ref (a 48), .ref (a 49), .ref (a 50), .int 0, .int 0, .ref (a 53), .ref (a 54), .int 0, .int 0, .int 0])), ((a 38), .inl ((k 38), 199, .inl f_3))] H := hP
        have hD : va_D A [(h0, .inr (12, [.ref (a 0), .int 0, .ref (a 2), .ref (a 3), .ref (a 4), .int 0, .ref (a 6), .ref (a 7), .ref (a 8), .int 0, .ref (a 10), .ref (a 11), .ref (a 12), .ref (a 13), .ref (a 14), .ref (a 15), .ref (a 16), .ref (a 17), .ref (a 18), .int 0, .ref (a 20), .ref (a 21), .ref (a 22), .ref (a 23), .int 0, .ref (a 25), .ref (a 26), .ref (a 27), .ref (a 28), .ref (a 29), .int 0, .int 99, .ref (a 32), .ref (a 33), .int 0, .ref (a 35), .int rm, .int th, .ref (a 38), .ref (a 39), .int fo, .ref (a 41), .null, .int 0, .int 0, .int 0, .int 0, .null, .ref (a 48), .ref (a 49), .ref (a 50), .int 0, .int 0, .ref (a 53), .ref (a 54), .int 0, .int 0, .int 0])), ((a 38), .inl ((k 38), 199, .inl f_3))] := hD
        have hK : va_K (dC, dI) vwCl [((k 38), .int)] s := hK
        refine lv_iinc (v := nI (j + 1)) (lv' := [(2, .int (nI (j + 1))), (0, .ref h0), (1, .int (nI nm))]) hx hb dX12_go_11 hl (k := 2) rfl (nI_1 j) (by decide) rfl (fun ls hl => ?_)
        refine lv_goto (tgt := 2) hx hb dX12_go_14 (by decide) ?_
        exact ih_2  (j + 1) f_3 H _ ls (by omega) (by omega) (by rw [hf_5, hf]; exact nI_1 j) (hK.sub (tys' := [((k 38), .int)]) [0] rfl) (hP.sub (ws' := [(h0, .inr (12, [.ref (a 0), .int 0, .ref (a 2), .ref (a 3), .ref (a 4), .int 0, .ref (a 6), .ref (a 7), .ref (a 8), .int 0, .ref (a 10), .ref (a 11), .ref (a 12), .ref (a 13), .ref (a 14), .ref (a 15), .ref (a 16), .ref (a 17), .ref (a 18), .int 0, .ref (a 20), .ref (a 21), .ref (a 22), .ref (a 23), .int 0, .ref (a 25), .ref (a 26), .ref (a 27), .ref (a 28), .ref (a 29), .int 0, .int 99, .ref (a 32), .ref (a 33), .int 0, .ref (a 35), .int rm, .int th, .ref (a 38), .ref (a 39), .int fo, .ref (a 41), .null, .int 0, .int 0, .int 0, .int 0, .null, .ref (a 48), .ref (a 49), .ref (a 50), .int 0, .int 0, .ref (a 53), .ref (a 54), .int 0, .int 0, .int 0])), ((a 38), .inl ((k 38), 199, .inl f_3))]) [0, 1] rfl) (hD.sub (ws' := [(h0, .inr (12, [.ref (a 0), .int 0, .ref (a 2), .ref (a 3), .ref (a 4), .int 0, .ref (a 6), .ref (a 7), .ref (a 8), .int 0, .ref (a 10), .ref (a 11), .ref (a 12), .ref (a 13), .ref (a 14), .ref (a 15), .ref (a 16), .ref (a 17), .ref (a 18), .int 0, .ref (a 20), .ref (a 21), .ref (a 22), .ref (a 23), .int 0, .ref (a 25), .ref (a 26), .ref (a 27), .ref (a 28), .ref (a 29), .int 0, .int 99, .ref (a 32), .ref (a 33), .int 0, .ref (a 35), .int rm, .int th, .ref (a 38), .ref (a 39), .int fo, .ref (a 41), .null, .int 0, .int 0, .int 0, .int 0, .null, .ref (a 48), .ref (a 49), .ref (a 50), .int 0, .int 0, .ref (a 53), .ref (a 54), .int 0, .int 0, .int 0])), ((a 38), .inl ((k 38), 199, .inl f_3))]) [0, 1] (by decide) rfl) hS (lv_sub hl [1, 2, 0] rfl)
  exact loop_2 ((nm - 0) + 1) 0 fw s.heap _ ls (by omega) (by omega) (h3.trans nI_0.symm) (hK.sub (tys' := [((k 38), .int)]) [0] rfl) (hP.sub (ws' := [(h0, .inr (12, [.ref (a 0), .int 0, .ref (a 2), .ref (a 3), .ref (a 4), .int 0, .ref (a 6), .ref (a 7), .ref (a 8), .int 0, .ref (a 10), .ref (a 11), .ref (a 12), .ref (a 13), .ref (a 14), .ref (a 15), .ref (a 16), .ref (a 17), .ref (a 18), .int 0, .ref (a 20), .ref (a 21), .ref (a 22), .ref (a 23), .int 0, .ref (a 25), .ref (a 26), .ref (a 27), .ref (a 28), .ref (a 29), .int 0, .int 99, .ref (a 32), .ref (a 33), .int 0, .ref (a 35), .int rm, .int th, .ref (a 38), .ref (a 39), .int fo, .ref (a 41), .null, .int 0, .int 0, .int 0, .int 0, .null, .ref (a 48), .ref (a 49), .ref (a 50), .int 0, .int 0, .ref (a 53), .ref (a 54), .int 0, .int 0, .int 0])), ((a 38), .inl ((k 38), 199, .inl fw))]) [0, 1] rfl) (hD.sub (ws' := [(h0, .inr (12, [.ref (a 0), .int 0, .ref (a 2), .ref (a 3), .ref (a 4), .int 0, .ref (a 6), .ref (a 7), .ref (a 8), .int 0, .ref (a 10), .ref (a 11), .ref (a 12), .ref (a 13), .ref (a 14), .ref (a 15), .ref (a 16), .ref (a 17), .ref (a 18), .int 0, .ref (a 20), .ref (a 21), .ref (a 22), .ref (a 23), .int 0, .ref (a 25), .ref (a 26), .ref (a 27), .ref (a 28), .ref (a 29), .int 0, .int 99, .ref (a 32), .ref (a 33), .int 0, .ref (a 35), .int rm, .int th, .ref (a 38), .ref (a 39), .int fo, .ref (a 41), .null, .int 0, .int 0, .int 0, .int 0, .null, .ref (a 48), .ref (a 49), .ref (a 50), .int 0, .int 0, .ref (a 53), .ref (a 54), .int 0, .int 0, .int 0])), ((a 38), .inl ((k 38), 199, .inl fw))]) [0, 1] (by decide) rfl) hS (lv_sub hl [1, 2, 0] rfl)
def wo_m_findPlan : List Cond := [.fieldLink RX12 149 "TypingPoolModel" "pieces" "I", .methodLink RX12 145 yX12_in, .static yX12_in, .initialized RX12]
def wm_m_findPlan : List Cond := .code yX12_findPlan cX12_findPlan 6 (some .int) :: (wo_m_findPlan ++ (wsX120 ++ (wm_m_in10 ++ ([] : List Cond))))
theorem gd_m_findPlan : ∀ w ∈ wm_m_findPlan, goodWord w = true := gd_c rfl (gd_a (by decide) (gd_a gd_wsX120 (gd_a gd_m_in10 gd_nil)))
set_option maxRecDepth 20000 in
theorem im_m_findPlan : ∀ w ∈ wm_m_findPlan, w ∈ lw_tbl := im_c (in_r [.code yX12_findPlan cX12_findPlan 6 (some .int)] [1695] (by decide +kernel)) (in_app (in_r wo_m_findPlan [1260, 1424, 1425, 86] (by decide +kernel)) (in_app im_wsX120 (in_app im_m_in10 im_nil)))
set_option maxHeartbeats 4000000 in
set_option maxRecDepth 100000 in
theorem m_findPlan (l : Launch) (dC : Nat → ClassId) (dI : Nat → Nat → Nat) (ad av : Nat → Nat) (sz : Nat) (h0 : Nat) (a : Nat → Nat) (k : Nat → ClassId) (th : Int32) (p0 : Int32) (p1 : Int32) : Met l yX12_findPlan wm_m_findPlan ({ frames := 2, cells := 0, slots := 0, locals := 60 }) (pr_ ad av (dC, dI) sz [.ref h0, .int p0, .int p1] [(h0, .inr (12, [.ref (a 0), .int 0, .ref (a 2), .ref (a 3), .ref (a 4), .int 0, .ref (a 6), .ref (a 7), .ref (a 8), .int 0, .ref (a 10), .ref (a 11), .ref (a 12), .ref (a 13), .ref (a 14), .ref (a 15), .ref (a 16), .ref (a 17), .ref (a 18), .int 0, .ref (a 20), .ref (a 21), .ref (a 22), .ref (a 23), .int 0, .ref (a 25), .ref (a 26), .ref (a 27), .ref (a 28), .ref (a 29), .int 0, .int 99, .ref (a 32), .ref (a 33), .int 0, .ref (a 35), .int 0, .int th, .ref (a 38), .ref (a 39), .int (-1), .ref (a 41), .null, .int 0, .int 0, .int 0, .int 0, .null, .ref (a 48), .ref (a 49), .ref (a 50), .int 0, .int 0, .ref (a 53), .ref (a 54), .int 0, .int 0, .int 0]))] []) (va_Qi (fun (r u : Int32) => u = r) (fun (r : Int32) (t : State) => (r = (-1) ∧ po_ (dC, dI) (va_A [(h0, .inr (12, [.ref (a 0), .int 0, .ref (a 2), .ref (a 3), .ref (a 4), .int 0, .ref (a 6), .ref (a 7), .ref (a 8), .int 0, .ref (a 10), .ref (a 11), .ref (a 12), .ref (a 13), .ref (a 14), .ref (a 15), .ref (a 16), .ref (a 17), .ref (a 18), .int 0, .ref (a 20), .ref (a 21), .ref (a 22), .ref (a 23), .int 0, .ref (a 25), .ref (a 26), .ref (a 27), .ref (a 28), .ref (a 29), .int 0, .int 99, .ref (a 32), .ref (a 33), .int 0, .ref (a 35), .int 0, .int th, .ref (a 38), .ref (a 39), .int (-1), .ref (a 41), .null, .int 0, .int 0, .int 0, .int 0, .null, .ref (a 48), .ref (a 49), .ref (a 50), .int 0, .int 0, .ref (a 53), .ref (a 54), .int 0, .int 0, .int 0]))] sz) [(h0, .inr (12, [.ref (a 0), .int 0, .ref (a 2), .ref (a 3), .ref (a 4), .int 0, .ref (a 6), .ref (a 7), .ref (a 8), .int 0, .ref (a 10), .ref (a 11), .ref (a 12), .ref (a 13), .ref (a 14), .ref (a 15), .ref (a 16), .ref (a 17), .ref (a 18), .int 0, .ref (a 20), .ref (a 21), .ref (a 22), .ref (a 23), .int 0, .ref (a 25), .ref (a 26), .ref (a 27), .ref (a 28), .ref (a 29), .int 0, .int 99, .ref (a 32), .ref (a 33), .int 0, .ref (a 35), .int 0, .int th, .ref (a 38), .ref (a 39), .int (-1), .ref (a 41), .null, .int 0, .int 0, .int 0, .int 0, .null, .ref (a 48), .ref (a 49), .ref (a 50), .int 0, .int 0, .ref (a 53), .ref (a 54), .int 0, .int 0, .int 0]))] [] t)) (va_A [(h0, .inr (12, [.ref (a 0), .int 0, .ref (a 2), .ref (a 3), .ref (a 4), .int 0, .ref (a 6), .ref (a 7), .ref (a 8), .int 0, .ref (a 10), .ref (a 11), .ref (a 12), .ref (a 13), .ref (a 14), .ref (a 15), .ref (a 16), .ref (a 17), .ref (a 18), .int 0, .ref (a 20), .ref (a 21), .ref (a 22), .ref (a 23), .int 0, .ref (a 25), .ref (a 26), .ref (a 27), .ref (a 28), .ref (a 29), .int 0, .int 99, .ref (a 32), .ref (a 33), .int 0, .ref (a 35), .int 0, .int th, .ref (a 38), .ref (a 39), .int (-1), .ref (a 41), .null, .int 0, .int 0, .int 0, .int 0, .null, .ref (a 48), .ref (a 49), .ref (a 50), .int 0, .int 0, .ref (a 53), .ref (a 54), .int 0, .int 0, .int 0]))] sz)) 0 0 (va_A [(h0, .inr (12, [.ref (a 0), .int 0, .ref (a 2), .ref (a 3), .ref (a 4), .int 0, .ref (a 6), .ref (a 7), .ref (a 8), .int 0, .ref (a 10), .ref (a 11), .ref (a 12), .ref (a 13), .ref (a 14), .ref (a 15), .ref (a 16), .ref (a 17), .ref (a 18), .int 0, .ref (a 20), .ref (a 21), .ref (a 22), .ref (a 23), .int 0, .ref (a 25), .ref (a 26), .ref (a 27), .ref (a 28), .ref (a 29), .int 0, .int 99, .ref (a 32), .ref (a 33), .int 0, .ref (a 35), .int 0, .int th, .ref (a 38), .ref (a 39), .int (-1), .ref (a 41), .null, .int 0, .int 0, .int 0, .int 0, .null, .ref (a 48), .ref (a 49), .ref (a 50), .int 0, .int 0, .ref (a 53), .ref (a 54), .int 0, .int 0, .int 0]))] sz) := by
  refine Met.ofW (cc := cX12_findPlan) (maxL := 6) (ret := (some .int)) (by decide) rfl ?_
  intro p e s m args below meth c s₁ B hml hv
  obtain ⟨rfl, hsz, hP, hK, hD0, hM⟩ := hv
  have hx := B.exec
  have hb := B.bytes
  have hr := B.returns
  have hts := atoms_spec (ws := wm_m_findPlan) B.pre
  have hown : s.vm.findClass RX12 = some m.cls := findClass_of_methodNamed B.named
  have hlocks := B.notSynchronized
  subst hsz
  have hD := hD0.self (sz := s.heap.size)
  generalize hAe : va_A [(h0, .inr (12, [.ref (a 0), .int 0, .ref (a 2), .ref (a 3), .ref (a 4), .int 0, .ref (a 6), .ref (a 7), .ref (a 8), .int 0, .ref (a 10), .ref (a 11), .ref (a 12), .ref (a 13), .ref (a 14), .ref (a 15), .ref (a 16), .ref (a 17), .ref (a 18), .int 0, .ref (a 20), .ref (a 21), .ref (a 22), .ref (a 23), .int 0, .ref (a 25), .ref (a 26), .ref (a 27), .ref (a 28), .ref (a 29), .int 0, .int 99, .ref (a 32), .ref (a 33), .int 0, .ref (a 35), .int 0, .int th, .ref (a 38), .ref (a 39), .int (-1), .ref (a 41), .null, .int 0, .int 0, .int 0, .int 0, .null, .ref (a 48), .ref (a 49), .ref (a 50), .int 0, .int 0, .ref (a 53), .ref (a 54), .int 0, .int 0, .int 0]))] s.heap.size = A at hD hM ⊢
  have hA : ∀ q : Nat, s.heap.size ≤ q → A q := fun q h => by rw [← hAe]; exact Or.inr h
  have hS : va_S A s.heap s.heap [] := va_S.rf
  have hP : va_P (dC, dI) vwCl [(h0, .inr (12, [.ref (a 0), .int 0, .ref (a 2), .ref (a 3), .ref (a 4), .int 0, .ref (a 6), .ref (a 7), .ref (a 8), .int 0, .ref (a 10), .ref (a 11), .ref (a 12), .ref (a 13), .ref (a 14), .ref (a 15), .ref (a 16), .ref (a 17), .ref (a 18), .int 0, .ref (a 20), .ref (a 21), .ref (a 22), .ref (a 23), .int 0, .ref (a 25), .ref (a 26), .ref (a 27), .ref (a 28), .ref (a 29), .int 0, .int 99, .ref (a 32), .ref (a 33), .int 0, .ref (a 35), .int 0, .int th, .ref (a 38), .ref (a 39), .int (-1), .ref (a 41), .null, .int 0, .int 0, .int 0, .int 0, .null, .ref (a 48), .ref (a 49), .ref (a 50), .int 0, .int 0, .ref (a 53), .ref (a 54), .int 0, .int 0, .int 0]))] s.heap := hP
  have hl := lv_entry ([.ref h0, .int p0, .int p1]) (n := 6) (Nat.le_of_ble_eq_true rfl)
  rw [lg_entry_eq]
  generalize (lg_sl ([.ref h0, .int p0, .int p1]) ++ List.replicate (6 - (lg_sl ([.ref h0, .int p0, .int p1])).length) Slot.unset).toArray = ls at hl ⊢
  have hl : lv_has ls 6 [(0, .ref h0), (1, .int p0), (2, .int p1)] := hl
  refine lv_iload_n hx hb dX12_findPlan_0 rfl (lv_at hl 1 rfl) ?_
  refine lv_iconst (v := 1) hx hb dX12_findPlan_1 (by decide) ?_
  refine lv_iconst (v := 1) hx hb dX12_findPlan_2 (by decide) ?_
  refine lv_aload_n hx hb dX12_findPlan_3 rfl (lv_at hl 0 rfl) ?_
  refine va_get (D := (dC, dI)) (ci := 12) (v := .int 0) (C := RX12) (T := TX12) (N := 58) hx hb hts (fun _ hh => (List.mem_cons_of_mem _ (List.mem_append_right _ (List.mem_append_left _ hh)))) hown hK hP 0 rfl rfl 19 (by decide) (hts (.fieldLink RX12 149 "TypingPoolModel" "pieces" "I") (List.mem_cons_of_mem _ (List.mem_append_left _ (List.mem_of_getElem? (i := 0) rfl)))) (fun _ h9 => h9) rfl dX12_findPlan_4 ?_
  refine lv_ishl hx hb dX12_findPlan_7 ?_
  refine lq_top (v := 1) (by decide) ?_
  refine lv_iconst (v := 1) hx hb dX12_findPlan_8 (by decide) ?_
  refine lv_isub hx hb dX12_findPlan_9 ?_
  refine lq_top (v := 0) (by decide) ?_
  have hPc := hP.sub (ws' := []) [] rfl
  have hDc := hD.sub (ws' := []) [] (by decide) rfl
  have hKc := hK.sub (tys' := []) [] rfl
  have hFc := va_free (wc := []) hD hS hA [] rfl
  refine va_calli (va_runS (As := [.int p0, .int 1, .int 0]) (rest := []) ⟨hx, hb, hml, hown, hts⟩ (m_in10 l dC dI ad av s.heap.size p0 ) (va_cwS 3 hts (gi_3 (List.mem_cons_of_mem _ (List.mem_append_left _ (List.mem_of_getElem? (i := 1) rfl))) (List.mem_cons_of_mem _ (List.mem_append_left _ (List.mem_of_getElem? (i := 2) rfl))) (List.mem_cons_of_mem _ (List.mem_append_left _ (List.mem_of_getElem? (i := 3) rfl))) (fun _ hh => (List.mem_cons_of_mem _ (List.mem_append_right _ (List.mem_append_right _ (List.mem_append_left _ hh))))) gd_m_in10) rfl rfl rfl (by decide +kernel) ⟨Nat.le_of_ble_eq_true rfl, Nat.le_of_ble_eq_true rfl⟩) ⟨pr_blind, pr_use hPc hKc hDc hFc hS hM⟩ rfl rfl hl.1 rfl (lv_room (Nat.le_of_ble_eq_true rfl)) dX12_findPlan_10 ⟨Nat.le_of_ble_eq_true rfl, Nat.le_of_ble_eq_true rfl⟩) hS (fun q _ h => hFc q h) hFc (fun r_74 u t H locs ht hvm hw hB hz1 hk1 hS => ?_)
  refine W.widen (k := 0) (n := 0) (Nat.le_of_ble_eq_true rfl) (Nat.le_of_ble_eq_true rfl) ?_
  subst hw
  obtain ⟨hre_75, hP1, hK1, hD1⟩ := hB
  refine lq_top (v := 0) hre_75 ?_
  rw [ht] at hP1
  have hK1 := va_K.moved hvm.symm hK1
  obtain ⟨hP, hD⟩ := va_join (wr := [(h0, .inr (12, [.ref (a 0), .int 0, .ref (a 2), .ref (a 3), .ref (a 4), .int 0, .ref (a 6), .ref (a 7), .ref (a 8), .int 0, .ref (a 10), .ref (a 11), .ref (a 12), .ref (a 13), .ref (a 14), .ref (a 15), .ref (a 16), .ref (a 17), .ref (a 18), .int 0, .ref (a 20), .ref (a 21), .ref (a 22), .ref (a 23), .int 0, .ref (a 25), .ref (a 26), .ref (a 27), .ref (a 28), .ref (a 29), .int 0, .int 99, .ref (a 32), .ref (a 33), .int 0, .ref (a 35), .int 0, .int th, .ref (a 38), .ref (a 39), .int (-1), .ref (a 41), .null, .int 0, .int 0, .int 0, .int 0, .null, .ref (a 48), .ref (a 49), .ref (a 50), .int 0, .int 0, .ref (a 53), .ref (a 54), .int 0, .int 0, .int 0]))]) (w1 := []) hP hD [] [0] rfl rfl (by decide) (by decide) hk1 hFc hP1 hD1
  have hK := (hK.sub (tys' := []) [] rfl).app hK1
  have hP : va_P (dC, dI) vwCl [(h0, .inr (12, [.ref (a 0), .int 0, .ref (a 2), .ref (a 3), .ref (a 4), .int 0, .ref (a 6), .ref (a 7), .ref (a 8), .int 0, .ref (a 10), .ref (a 11), .ref (a 12), .ref (a 13), .ref (a 14), .ref (a 15), .ref (a 16), .ref (a 17), .ref (a 18), .int 0, .ref (a 20), .ref (a 21), .ref (a 22), .ref (a 23), .int 0, .ref (a 25), .ref (a 26), .ref (a 27), .ref (a 28), .ref (a 29), .int 0, .int 99, .ref (a 32), .ref (a 33), .int 0, .ref (a 35), .int 0, .int th, .ref (a 38), .ref (a 39), .int (-1), .ref (a 41), .null, .int 0, .int 0, .int 0, .int 0, .null, .ref (a 48), .ref (a 49), .ref (a 50), .int 0, .int 0, .ref (a 53), .ref (a 54), .int 0, .int 0, .int 0]))] H := hP
  have hD : va_D A [(h0, .inr (12, [.ref (a 0), .int 0, .ref (a 2), .ref (a 3), .ref (a 4), .int 0, .ref (a 6), .ref (a 7), .ref (a 8), .int 0, .ref (a 10), .ref (a 11), .ref (a 12), .ref (a 13), .ref (a 14), .ref (a 15), .ref (a 16), .ref (a 17), .ref (a 18), .int 0, .ref (a 20), .ref (a 21), .ref (a 22), .ref (a 23), .int 0, .ref (a 25), .ref (a 26), .ref (a 27), .ref (a 28), .ref (a 29), .int 0, .int 99, .ref (a 32), .ref (a 33), .int 0, .ref (a 35), .int 0, .int th, .ref (a 38), .ref (a 39), .int (-1), .ref (a 41), .null, .int 0, .int 0, .int 0, .int 0, .null, .ref (a 48), .ref (a 49), .ref (a 50), .int 0, .int 0, .ref (a 53), .ref (a 54), .int 0, .int 0, .int 0]))] := hD
  have hK : va_K (dC, dI) vwCl [] s := hK
  refine lv_if_eq (tgt := 48) hx hb dX12_findPlan_13 (by decide) (fun c_76 => ?_) (fun c_76 => absurd c_76 (fun z => z (by decide)))
  refine lv_iconst (v := (-1)) hx hb dX12_findPlan_48 (by decide) ?_
  have hP9 := hP.sub (ws' := [(h0, .inr (12, [.ref (a 0), .int 0, .ref (a 2), .ref (a 3), .ref (a 4), .int 0, .ref (a 6), .ref (a 7), .ref (a 8), .int 0, .ref (a 10), .ref (a 11), .ref (a 12), .ref (a 13), .ref (a 14), .ref (a 15), .ref (a 16), .ref (a 17), .ref (a 18), .int 0, .ref (a 20), .ref (a 21), .ref (a 22), .ref (a 23), .int 0, .ref (a 25), .ref (a 26), .ref (a 27), .ref (a 28), .ref (a 29), .int 0, .int 99, .ref (a 32), .ref (a 33), .int 0, .ref (a 35), .int 0, .int th, .ref (a 38), .ref (a 39), .int (-1), .ref (a 41), .null, .int 0, .int 0, .int 0, .int 0, .null, .ref (a 48), .ref (a 49), .ref (a 50), .int 0, .int 0, .ref (a 53), .ref (a 54), .int 0, .int 0, .int 0]))]) [0] rfl
  have hD9 := hD.sub (ws' := [(h0, .inr (12, [.ref (a 0), .int 0, .ref (a 2), .ref (a 3), .ref (a 4), .int 0, .ref (a 6), .ref (a 7), .ref (a 8), .int 0, .ref (a 10), .ref (a 11), .ref (a 12), .ref (a 13), .ref (a 14), .ref (a 15), .ref (a 16), .ref (a 17), .ref (a 18), .int 0, .ref (a 20), .ref (a 21), .ref (a 22), .ref (a 23), .int 0, .ref (a 25), .ref (a 26), .ref (a 27), .ref (a 28), .ref (a 29), .int 0, .int 99, .ref (a 32), .ref (a 33), .int 0, .ref (a 35), .int 0, .int th, .ref (a 38), .ref (a 39), .int (-1), .ref (a 41), .null, .int 0, .int 0, .int 0, .int 0, .null, .ref (a 48), .ref (a 49), .ref (a 50), .int 0, .int 0, .ref (a 53), .ref (a 54), .int 0, .int 0, .int 0]))]) [0] (by decide) rfl
  have hK9 := hK.sub (tys' := []) [] rfl
  exact W.iret (v := (-1)) hx hb hr (fun t ht hW => ⟨⟨(-1), (-1), rfl, rfl, ⟨rfl, by rw [ht]; exact hP9, va_K.moved hW.alike hK9, hD9⟩⟩, hS.F ht⟩) hS.2.2 dX12_findPlan_49
def wo_j_chka : List Cond := []
def wm_j_chka : List Cond := .code yJ3_checkIndex_8e157 cJ3_checkIndex_8e157 3 (some .int) :: (wo_j_chka ++ ([] : List Cond))
theorem gd_j_chka : ∀ w ∈ wm_j_chka, goodWord w = true := gd_c rfl (gd_a (by decide) gd_nil)
set_option maxRecDepth 20000 in
theorem im_j_chka : ∀ w ∈ wm_j_chka, w ∈ lw_tbl := im_c (in_r [.code yJ3_checkIndex_8e157 cJ3_checkIndex_8e157 3 (some .int)] [1233] (by decide +kernel)) (in_app (in_r wo_j_chka [] (by decide +kernel)) im_nil)
set_option maxHeartbeats 4000000 in
set_option maxRecDepth 100000 in
theorem j_chka (l : Launch) (dC : Nat → ClassId) (dI : Nat → Nat → Nat) (ad av : Nat → Nat) (sz : Nat) (j : Nat) (n0 : Nat) (g0 : Nat) (hj : j < n0) (hn : n0 < 100) : Met l yJ3_checkIndex_8e157 wm_j_chka ({ frames := 0, cells := 0, slots := 0, locals := 0 }) (pr_ ad av (dC, dI) sz [.int (nI j), .int (nI n0), .ref g0] [] []) (va_Qi (fun (r u : Int32) => u = r) (fun (r : Int32) (t : State) => (r = nI j ∧ po_ (dC, dI) (va_A [] sz) [] [] t)) (va_A [] sz)) 0 0 (va_A [] sz) := by
  refine Met.ofW (cc := cJ3_checkIndex_8e157) (maxL := 3) (ret := (some .int)) (by decide) rfl ?_
  intro p e s m args below meth c s₁ B hml hv
  obtain ⟨rfl, hsz, hP, hK, hD0, hM⟩ := hv
  have hx := B.exec
  have hb := B.bytes
  have hr := B.returns
  have hts := atoms_spec (ws := wm_j_chka) B.pre
  have hown : s.vm.findClass RJ3 = some m.cls := findClass_of_methodNamed B.named
  have hlocks := B.notSynchronized
  subst hsz
  have hD := hD0.self (sz := s.heap.size)
  generalize hAe : va_A [] s.heap.size = A at hD hM ⊢
  have hA : ∀ q : Nat, s.heap.size ≤ q → A q := fun q h => by rw [← hAe]; exact Or.inr h
  have hS : va_S A s.heap s.heap [] := va_S.rf
  have hP : va_P (dC, dI) vwCl [] s.heap := hP
  have hl := lv_entry ([.int (nI j), .int (nI n0), .ref g0]) (n := 3) (Nat.le_of_ble_eq_true rfl)
  rw [lg_entry_eq]
  generalize (lg_sl ([.int (nI j), .int (nI n0), .ref g0]) ++ List.replicate (3 - (lg_sl ([.int (nI j), .int (nI n0), .ref g0])).length) Slot.unset).toArray = ls at hl ⊢
  have hl : lv_has ls 3 [(0, .int (nI j)), (1, .int (nI n0)), (2, .ref g0)] := hl
  refine lv_iload_n hx hb dJ3_checkIndex_8e157_0 rfl (lv_at hl 0 rfl) ?_
  refine lv_if_lt (tgt := 9) hx hb dJ3_checkIndex_8e157_1 (by decide) (fun c_1 => absurd c_1 (nI_pos (by omega))) (fun c_1 => ?_)
  refine lv_iload_n hx hb dJ3_checkIndex_8e157_4 rfl (lv_at hl 0 rfl) ?_
  refine lv_iload_n hx hb dJ3_checkIndex_8e157_5 rfl (lv_at hl 1 rfl) ?_
  refine lv_icmp_lt (tgt := 16) hx hb dJ3_checkIndex_8e157_6 (by decide) (fun c_2 => ?_) (fun c_2 => absurd c_2 (fun z => z (nI_lt (by omega) (by omega))))
  refine lv_iload_n hx hb dJ3_checkIndex_8e157_16 rfl (lv_at hl 0 rfl) ?_
  have hP9 := hP.sub (ws' := []) [] rfl
  have hD9 := hD.sub (ws' := []) [] (by decide) rfl
  have hK9 := hK.sub (tys' := []) [] rfl
  exact W.iret (v := nI j) hx hb hr (fun t ht hW => ⟨⟨nI j, nI j, rfl, rfl, ⟨rfl, by rw [ht]; exact hP9, va_K.moved hW.alike hK9, hD9⟩⟩, hS.F ht⟩) hS.2.2 dJ3_checkIndex_8e157_17
def wo_j_chkb : List Cond := []
def wm_j_chkb : List Cond := .code yJ3_checkIndex_8e157 cJ3_checkIndex_8e157 3 (some .int) :: (wo_j_chkb ++ ([] : List Cond))
theorem gd_j_chkb : ∀ w ∈ wm_j_chkb, goodWord w = true := gd_c rfl (gd_a (by decide) gd_nil)
set_option maxRecDepth 20000 in
theorem im_j_chkb : ∀ w ∈ wm_j_chkb, w ∈ lw_tbl := im_c (in_r [.code yJ3_checkIndex_8e157 cJ3_checkIndex_8e157 3 (some .int)] [1233] (by decide +kernel)) (in_app (in_r wo_j_chkb [] (by decide +kernel)) im_nil)
set_option maxHeartbeats 4000000 in
set_option maxRecDepth 100000 in
theorem j_chkb (l : Launch) (dC : Nat → ClassId) (dI : Nat → Nat → Nat) (ad av : Nat → Nat) (sz : Nat) (j : Nat) (n0 : Nat) (hj : j < n0) (hn : n0 < 100) : Met l yJ3_checkIndex_8e157 wm_j_chkb ({ frames := 0, cells := 0, slots := 0, locals := 0 }) (pr_ ad av (dC, dI) sz [.int (nI j), .int (nI n0), .null] [] []) (va_Qi (fun (r u : Int32) => u = r) (fun (r : Int32) (t : State) => (r = nI j ∧ po_ (dC, dI) (va_A [] sz) [] [] t)) (va_A [] sz)) 0 0 (va_A [] sz) := by
  refine Met.ofW (cc := cJ3_checkIndex_8e157) (maxL := 3) (ret := (some .int)) (by decide) rfl ?_
  intro p e s m args below meth c s₁ B hml hv
  obtain ⟨rfl, hsz, hP, hK, hD0, hM⟩ := hv
  have hx := B.exec
  have hb := B.bytes
  have hr := B.returns
  have hts := atoms_spec (ws := wm_j_chkb) B.pre
  have hown : s.vm.findClass RJ3 = some m.cls := findClass_of_methodNamed B.named
  have hlocks := B.notSynchronized
  subst hsz
  have hD := hD0.self (sz := s.heap.size)
  generalize hAe : va_A [] s.heap.size = A at hD hM ⊢
  have hA : ∀ q : Nat, s.heap.size ≤ q → A q := fun q h => by rw [← hAe]; exact Or.inr h
  have hS : va_S A s.heap s.heap [] := va_S.rf
  have hP : va_P (dC, dI) vwCl [] s.heap := hP
  have hl := lv_entry ([.int (nI j), .int (nI n0), .null]) (n := 3) (Nat.le_of_ble_eq_true rfl)
  rw [lg_entry_eq]
  generalize (lg_sl ([.int (nI j), .int (nI n0), .null]) ++ List.replicate (3 - (lg_sl ([.int (nI j), .int (nI n0), .null])).length) Slot.unset).toArray = ls at hl ⊢
  have hl : lv_has ls 3 [(0, .int (nI j)), (1, .int (nI n0)), (2, .null)] := hl
  refine lv_iload_n hx hb dJ3_checkIndex_8e157_0 rfl (lv_at hl 0 rfl) ?_
  refine lv_if_lt (tgt := 9) hx hb dJ3_checkIndex_8e157_1 (by decide) (fun c_3 => absurd c_3 (nI_pos (by omega))) (fun c_3 => ?_)
  refine lv_iload_n hx hb dJ3_checkIndex_8e157_4 rfl (lv_at hl 0 rfl) ?_
  refine lv_iload_n hx hb dJ3_checkIndex_8e157_5 rfl (lv_at hl 1 rfl) ?_
  refine lv_icmp_lt (tgt := 16) hx hb dJ3_checkIndex_8e157_6 (by decide) (fun c_4 => ?_) (fun c_4 => absurd c_4 (fun z => z (nI_lt (by omega) (by omega))))
  refine lv_iload_n hx hb dJ3_checkIndex_8e157_16 rfl (lv_at hl 0 rfl) ?_
  have hP9 := hP.sub (ws' := []) [] rfl
  have hD9 := hD.sub (ws' := []) [] (by decide) rfl
  have hK9 := hK.sub (tys' := []) [] rfl
  exact W.iret (v := nI j) hx hb hr (fun t ht hW => ⟨⟨nI j, nI j, rfl, rfl, ⟨rfl, by rw [ht]; exact hP9, va_K.moved hW.alike hK9, hD9⟩⟩, hS.F ht⟩) hS.2.2 dJ3_checkIndex_8e157_17
def wo_j_checkIndex : List Cond := [.fieldLink RJ0 1053 "jdk/internal/util/Preconditions" "SIOOBE_FORMATTER" "Ljava/util/function/BiFunction;", .methodLink RJ0 1059 yJ3_checkIndex_8e157, .static yJ3_checkIndex_8e157, .initialized RJ3]
def wm_j_checkIndex : List Cond := .code yJ0_checkIndex_df160 cJ0_checkIndex_df160 2 none :: (wo_j_checkIndex ++ (wm_j_chkb ++ (wm_j_chka ++ ([] : List Cond))))
theorem gd_j_checkIndex : ∀ w ∈ wm_j_checkIndex, goodWord w = true := gd_c rfl (gd_a (by decide) (gd_a gd_j_chkb (gd_a gd_j_chka gd_nil)))
set_option maxRecDepth 20000 in
theorem im_j_checkIndex : ∀ w ∈ wm_j_checkIndex, w ∈ lw_tbl := im_c (in_r [.code yJ0_checkIndex_df160 cJ0_checkIndex_df160 2 none] [1230] (by decide +kernel)) (in_app (in_r wo_j_checkIndex [234, 1231, 1232, 77] (by decide +kernel)) (in_app im_j_chkb (in_app im_j_chka im_nil)))
set_option maxHeartbeats 4000000 in
set_option maxRecDepth 100000 in
theorem j_checkIndex (l : Launch) (dC : Nat → ClassId) (dI : Nat → Nat → Nat) (ad av : Nat → Nat) (sz : Nat) (j : Nat) (n0 : Nat) (hj : j < n0) (hn : n0 < 100) : Met l yJ0_checkIndex_df160 wm_j_checkIndex ({ frames := 1, cells := 0, slots := 0, locals := 60 }) (pr_ ad av (dC, dI) sz [.int (nI j), .int (nI n0)] [] []) (va_Qv (fun (_ : Unit) => True) (fun (_ : Unit) (t : State) => (po_ (dC, dI) (va_A [] sz) [] [] t)) (va_A [] sz)) 0 0 (va_A [] sz) := by
  refine Met.ofW (cc := cJ0_checkIndex_df160) (maxL := 2) (ret := none) (by decide) rfl ?_
  intro p e s m args below meth c s₁ B hml hv
  obtain ⟨rfl, hsz, hP, hK, hD0, hM⟩ := hv
  have hx := B.exec
  have hb := B.bytes
  have hr := B.returns
  have hts := atoms_spec (ws := wm_j_checkIndex) B.pre
  have hown : s.vm.findClass RJ0 = some m.cls := findClass_of_methodNamed B.named
  have hlocks := B.notSynchronized
  subst hsz
  have hD := hD0.self (sz := s.heap.size)
  generalize hAe : va_A [] s.heap.size = A at hD hM ⊢
  have hA : ∀ q : Nat, s.heap.size ≤ q → A q := fun q h => by rw [← hAe]; exact Or.inr h
  have hS : va_S A s.heap s.heap [] := va_S.rf
  have hP : va_P (dC, dI) vwCl [] s.heap := hP
  have hl := lv_entry ([.int (nI j), .int (nI n0)]) (n := 2) (Nat.le_of_ble_eq_true rfl)
  rw [lg_entry_eq]
  generalize (lg_sl ([.int (nI j), .int (nI n0)]) ++ List.replicate (2 - (lg_sl ([.int (nI j), .int (nI n0)])).length) Slot.unset).toArray = ls at hl ⊢
  have hl : lv_has ls 2 [(0, .int (nI j)), (1, .int (nI n0))] := hl
  refine lv_iload_n hx hb dJ0_checkIndex_df160_0 rfl (lv_at hl 0 rfl) ?_
  refine lv_iload_n hx hb dJ0_checkIndex_df160_1 rfl (lv_at hl 1 rfl) ?_
  rcases hM.2.2.2.2.2.2.2.2 with hZ | ⟨gz, hZ⟩
  · refine va_gets hx hb hZ hS hown (hts (.fieldLink RJ0 1053 "jdk/internal/util/Preconditions" "SIOOBE_FORMATTER" "Ljava/util/function/BiFunction;") (List.mem_cons_of_mem _ (List.mem_append_left _ (List.mem_of_getElem? (i := 0) rfl)))) (fun _ h9 => h9) dJ0_checkIndex_df160_2 ?_
    have hPc := hP.sub (ws' := []) [] rfl
    have hDc := hD.sub (ws' := []) [] (by decide) rfl
    have hKc := hK.sub (tys' := []) [] rfl
    have hFc := va_free (wc := []) hD hS hA [] rfl
    refine va_calli (va_runS (As := [.int (nI j), .int (nI n0), .null]) (rest := []) ⟨hx, hb, hml, hown, hts⟩ (j_chkb l dC dI ad av s.heap.size j n0 (by omega) (by omega)) (va_cwS 3 hts (gi_3 (List.mem_cons_of_mem _ (List.mem_append_left _ (List.mem_of_getElem? (i := 1) rfl))) (List.mem_cons_of_mem _ (List.mem_append_left _ (List.mem_of_getElem? (i := 2) rfl))) (List.mem_cons_of_mem _ (List.mem_append_left _ (List.mem_of_getElem? (i := 3) rfl))) (fun _ hh => (List.mem_cons_of_mem _ (List.mem_append_right _ (List.mem_append_left _ hh)))) gd_j_chkb) rfl rfl rfl (by decide +kernel) ⟨Nat.le_of_ble_eq_true rfl, Nat.le_of_ble_eq_true rfl⟩) ⟨pr_blind, pr_use hPc hKc hDc hFc hS hM⟩ rfl rfl hl.1 rfl (lv_room (Nat.le_of_ble_eq_true rfl)) dJ0_checkIndex_df160_5 ⟨Nat.le_of_ble_eq_true rfl, Nat.le_of_ble_eq_true rfl⟩) hS (fun q _ h => hFc q h) hFc (fun r_1 u t H locs ht hvm hw hB hz1 hk1 hS => ?_)
    refine W.widen (k := 0) (n := 0) (Nat.le_of_ble_eq_true rfl) (Nat.le_of_ble_eq_true rfl) ?_
    subst hw
    obtain ⟨hre_2, hP1, hK1, hD1⟩ := hB
    refine lq_top (v := nI j) hre_2 ?_
    rw [ht] at hP1
    have hK1 := va_K.moved hvm.symm hK1
    obtain ⟨hP, hD⟩ := va_join (wr := []) (w1 := []) hP hD [] [] rfl rfl (by decide) (by decide) hk1 hFc hP1 hD1
    have hK := (hK.sub (tys' := []) [] rfl).app hK1
    have hP : va_P (dC, dI) vwCl [] H := hP
    have hD : va_D A [] := hD
    have hK : va_K (dC, dI) vwCl [] s := hK
    refine lv_pop hx hb dJ0_checkIndex_df160_8 rfl ?_
    have hP9 := hP.sub (ws' := []) [] rfl
    have hD9 := hD.sub (ws' := []) [] (by decide) rfl
    have hK9 := hK.sub (tys' := []) [] rfl
    exact W.vret hx hb hr (fun t ht hW => ⟨⟨(), rfl, trivial, ⟨by rw [ht]; exact hP9, va_K.moved hW.alike hK9, hD9⟩⟩, hS.F ht⟩) hS.2.2 dJ0_checkIndex_df160_9
  · refine va_gets hx hb hZ hS hown (hts (.fieldLink RJ0 1053 "jdk/internal/util/Preconditions" "SIOOBE_FORMATTER" "Ljava/util/function/BiFunction;") (List.mem_cons_of_mem _ (List.mem_append_left _ (List.mem_of_getElem? (i := 0) rfl)))) (fun _ h9 => h9) dJ0_checkIndex_df160_2 ?_
    have hPc := hP.sub (ws' := []) [] rfl
    have hDc := hD.sub (ws' := []) [] (by decide) rfl
    have hKc := hK.sub (tys' := []) [] rfl
    have hFc := va_free (wc := []) hD hS hA [] rfl
    refine va_calli (va_runS (As := [.int (nI j), .int (nI n0), .ref gz]) (rest := []) ⟨hx, hb, hml, hown, hts⟩ (j_chka l dC dI ad av s.heap.size j n0 gz (by omega) (by omega)) (va_cwS 3 hts (gi_3 (List.mem_cons_of_mem _ (List.mem_append_left _ (List.mem_of_getElem? (i := 1) rfl))) (List.mem_cons_of_mem _ (List.mem_append_left _ (List.mem_of_getElem? (i := 2) rfl))) (List.mem_cons_of_mem _ (List.mem_append_left _ (List.mem_of_getElem? (i := 3) rfl))) (fun _ hh => (List.mem_cons_of_mem _ (List.mem_append_right _ (List.mem_append_right _ (List.mem_append_left _ hh))))) gd_j_chka) rfl rfl rfl (by decide +kernel) ⟨Nat.le_of_ble_eq_true rfl, Nat.le_of_ble_eq_true rfl⟩) ⟨pr_blind, pr_use hPc hKc hDc hFc hS hM⟩ rfl rfl hl.1 rfl (lv_room (Nat.le_of_ble_eq_true rfl)) dJ0_checkIndex_df160_5 ⟨Nat.le_of_ble_eq_true rfl, Nat.le_of_ble_eq_true rfl⟩) hS (fun q _ h => hFc q h) hFc (fun r_3 u t H locs ht hvm hw hB hz1 hk1 hS => ?_)
    refine W.widen (k := 0) (n := 0) (Nat.le_of_ble_eq_true rfl) (Nat.le_of_ble_eq_true rfl) ?_
    subst hw
    obtain ⟨hre_4, hP1, hK1, hD1⟩ := hB
    refine lq_top (v := nI j) hre_4 ?_
    rw [ht] at hP1
    have hK1 := va_K.moved hvm.symm hK1
    obtain ⟨hP, hD⟩ := va_join (wr := []) (w1 := []) hP hD [] [] rfl rfl (by decide) (by decide) hk1 hFc hP1 hD1
    have hK := (hK.sub (tys' := []) [] rfl).app hK1
    have hP : va_P (dC, dI) vwCl [] H := hP
    have hD : va_D A [] := hD
    have hK : va_K (dC, dI) vwCl [] s := hK
    refine lv_pop hx hb dJ0_checkIndex_df160_8 rfl ?_
    have hP9 := hP.sub (ws' := []) [] rfl
    have hD9 := hD.sub (ws' := []) [] (by decide) rfl
    have hK9 := hK.sub (tys' := []) [] rfl
    exact W.vret hx hb hr (fun t ht hW => ⟨⟨(), rfl, trivial, ⟨by rw [ht]; exact hP9, va_K.moved hW.alike hK9, hD9⟩⟩, hS.F ht⟩) hS.2.2 dJ0_checkIndex_df160_9
def wo_j_charAtB : List Cond := [.methodLink RJ1 9 yJ0_checkIndex_df160, .static yJ0_checkIndex_df160, .initialized RJ0]
def wm_j_charAtB : List Cond := .code yJ1_charAt_3b067 cJ1_charAt_3b067 2 (some .char) :: (wo_j_charAtB ++ (wm_j_checkIndex ++ ([] : List Cond)))
theorem gd_j_charAtB : ∀ w ∈ wm_j_charAtB, goodWord w = true := gd_c rfl (gd_a (by decide) (gd_a gd_j_checkIndex gd_nil))
set_option maxRecDepth 20000 in
theorem im_j_charAtB : ∀ w ∈ wm_j_charAtB, w ∈ lw_tbl := im_c (in_r [.code yJ1_charAt_3b067 cJ1_charAt_3b067 2 (some .char)] [1227] (by decide +kernel)) (in_app (in_r wo_j_charAtB [1228, 1229, 74] (by decide +kernel)) (in_app im_j_checkIndex im_nil))
set_option maxHeartbeats 4000000 in
set_option maxRecDepth 100000 in
theorem j_charAtB (l : Launch) (dC : Nat → ClassId) (dI : Nat → Nat → Nat) (ad av : Nat → Nat) (sz : Nat) (i : Nat) (j : Nat) (hi : i < 9) (hj : j < sL i) : Met l yJ1_charAt_3b067 wm_j_charAtB ({ frames := 3, cells := 0, slots := 0, locals := 120 }) (pr_ ad av (dC, dI) sz [.ref (av i), .int (nI j)] [] []) (va_Qi (fun (r u : Int32) => u = r) (fun (r : Int32) (t : State) => (∃ (r9 : Int32), r = r9 ∧ narrow .char (.int r9) = .int r9 ∧ po_ (dC, dI) (va_A [] sz) [] [] t)) (va_A [] sz)) 0 0 (va_A [] sz) := by
  refine Met.ofW (cc := cJ1_charAt_3b067) (maxL := 2) (ret := (some .char)) (by decide) rfl ?_
  intro p e s m args below meth c s₁ B hml hv
  obtain ⟨rfl, hsz, hP, hK, hD0, hM⟩ := hv
  have hx := B.exec
  have hb := B.bytes
  have hr := B.returns
  have hts := atoms_spec (ws := wm_j_charAtB) B.pre
  have hown : s.vm.findClass RJ1 = some m.cls := findClass_of_methodNamed B.named
  have hlocks := B.notSynchronized
  subst hsz
  have hD := hD0.self (sz := s.heap.size)
  generalize hAe : va_A [] s.heap.size = A at hD hM ⊢
  have hA : ∀ q : Nat, s.heap.size ≤ q → A q := fun q h => by rw [← hAe]; exact Or.inr h
  have hS : va_S A s.heap s.heap [] := va_S.rf
  have hP : va_P (dC, dI) vwCl [] s.heap := hP
  have hl := lv_entry ([.ref (av i), .int (nI j)]) (n := 2) (Nat.le_of_ble_eq_true rfl)
  rw [lg_entry_eq]
  generalize (lg_sl ([.ref (av i), .int (nI j)]) ++ List.replicate (2 - (lg_sl ([.ref (av i), .int (nI j)])).length) Slot.unset).toArray = ls at hl ⊢
  have hl : lv_has ls 2 [(0, .ref (av i)), (1, .int (nI j))] := hl
  have hStr := st_at hM i hi
  have hsL := sL_le i
  obtain ⟨fS, hT⟩ := hStr.2.2.2
  refine lv_iload_n hx hb dJ1_charAt_3b067_0 rfl (lv_at hl 1 rfl) ?_
  refine lv_aload_n hx hb dJ1_charAt_3b067_1 rfl (lv_at hl 0 rfl) ?_
  refine va_tlen (v := nI (sL i)) hx hb hT hS rfl dJ1_charAt_3b067_2 ?_
  have hPc := hP.sub (ws' := []) [] rfl
  have hDc := hD.sub (ws' := []) [] (by decide) rfl
  have hKc := hK.sub (tys' := []) [] rfl
  have hFc := va_free (wc := []) hD hS hA [] rfl
  refine va_callv (va_runS (As := [.int (nI j), .int (nI (sL i))]) (rest := []) ⟨hx, hb, hml, hown, hts⟩ (j_checkIndex l dC dI ad av s.heap.size j (sL i) (by omega) (by omega)) (va_cwS 2 hts (gi_3 (List.mem_cons_of_mem _ (List.mem_append_left _ (List.mem_of_getElem? (i := 0) rfl))) (List.mem_cons_of_mem _ (List.mem_append_left _ (List.mem_of_getElem? (i := 1) rfl))) (List.mem_cons_of_mem _ (List.mem_append_left _ (List.mem_of_getElem? (i := 2) rfl))) (fun _ hh => (List.mem_cons_of_mem _ (List.mem_append_right _ (List.mem_append_left _ hh)))) gd_j_checkIndex) rfl rfl rfl (by decide +kernel) ⟨Nat.le_of_ble_eq_true rfl, Nat.le_of_ble_eq_true rfl⟩) ⟨pr_blind, pr_use hPc hKc hDc hFc hS hM⟩ rfl rfl hl.1 rfl (lv_room (Nat.le_of_ble_eq_true rfl)) dJ1_charAt_3b067_3 ⟨Nat.le_of_ble_eq_true rfl, Nat.le_of_ble_eq_true rfl⟩) hS (fun q _ h => hFc q h) hFc (fun u t H locs ht hvm hw hB hz1 hk1 hS => ?_)
  refine W.widen (k := 0) (n := 0) (Nat.le_of_ble_eq_true rfl) (Nat.le_of_ble_eq_true rfl) ?_
  obtain ⟨hP1, hK1, hD1⟩ := hB
  rw [ht] at hP1
  have hK1 := va_K.moved hvm.symm hK1
  obtain ⟨hP, hD⟩ := va_join (wr := []) (w1 := []) hP hD [] [] rfl rfl (by decide) (by decide) hk1 hFc hP1 hD1
  have hK := (hK.sub (tys' := []) [] rfl).app hK1
  have hP : va_P (dC, dI) vwCl [] H := hP
  have hD : va_D A [] := hD
  have hK : va_K (dC, dI) vwCl [] s := hK
  refine lv_aload_n hx hb dJ1_charAt_3b067_6 rfl (lv_at hl 0 rfl) ?_
  refine lv_iload_n hx hb dJ1_charAt_3b067_7 rfl (lv_at hl 1 rfl) ?_
  refine va_tb hx hb hT hS (vp_in_nI (n := j) (by omega) (by omega)) rfl dJ1_charAt_3b067_8 ?_
  refine lv_topi (fun x_3 ex_3 => ?_)
  refine lv_sipush (v := 255) hx hb dJ1_charAt_3b067_9 (by decide) ?_
  refine lv_iand hx hb dJ1_charAt_3b067_12 ?_
  refine lv_topi (fun x_4 ex_4 => ?_)
  refine lv_i2c hx hb dJ1_charAt_3b067_13 rfl ?_
  refine lv_topi (fun x_5 ex_5 => ?_)
  have hP9 := hP.sub (ws' := []) [] rfl
  have hD9 := hD.sub (ws' := []) [] (by decide) rfl
  have hK9 := hK.sub (tys' := []) [] rfl
  exact W.zret (v := x_5) hx hb hr (by rw [ex_5]; exact pk_nc _) (fun t ht hW => ⟨⟨x_5, x_5, rfl, rfl, ⟨x_5, rfl, (by rw [ex_5]; exact pk_nc _), by rw [ht]; exact hP9, va_K.moved hW.alike hK9, hD9⟩⟩, hS.F ht⟩) hS.2.2 dJ1_charAt_3b067_14
def wo_j_charAt : List Cond := [.methodLink RJ0 492 yJ0_isLatin1_aae02, .instanceMethod yJ0_isLatin1_aae02, .selects RJ0 yJ0_isLatin1_aae02 yJ0_isLatin1_aae02, .initialized RJ0, .fieldLink RJ0 9 "java/lang/String" "value" "[B", .methodLink RJ0 495 yJ1_charAt_3b067, .static yJ1_charAt_3b067, .initialized RJ1]
def wm_j_charAt : List Cond := .code yJ0_charAt_5068e cJ0_charAt_5068e 2 (some .char) :: (wo_j_charAt ++ (wm_j_isLatin1 ++ (wm_j_charAtB ++ ([] : List Cond))))
theorem gd_j_charAt : ∀ w ∈ wm_j_charAt, goodWord w = true := gd_c rfl (gd_a (by decide) (gd_a gd_j_isLatin1 (gd_a gd_j_charAtB gd_nil)))
set_option maxRecDepth 20000 in
theorem im_j_charAt : ∀ w ∈ wm_j_charAt, w ∈ lw_tbl := im_c (in_r [.code yJ0_charAt_5068e cJ0_charAt_5068e 2 (some .char)] [1224] (by decide +kernel)) (in_app (in_r wo_j_charAt [207, 208, 209, 74, 1758, 1225, 1226, 75] (by decide +kernel)) (in_app im_j_isLatin1 (in_app im_j_charAtB im_nil)))
set_option maxHeartbeats 4000000 in
set_option maxRecDepth 100000 in
theorem j_charAt (l : Launch) (dC : Nat → ClassId) (dI : Nat → Nat → Nat) (ad av : Nat → Nat) (sz : Nat) (i : Nat) (j : Nat) (hi : i < 9) (hj : j < sL i) : Met l yJ0_charAt_5068e wm_j_charAt ({ frames := 5, cells := 0, slots := 0, locals := 160 }) (pr_ ad av (dC, dI) sz [.ref (ad i), .int (nI j)] [] []) (va_Qi (fun (r u : Int32) => u = r) (fun (r : Int32) (t : State) => (∃ (r9 : Int32), r = r9 ∧ narrow .char (.int r9) = .int r9 ∧ po_ (dC, dI) (va_A [] sz) [] [] t)) (va_A [] sz)) 0 0 (va_A [] sz) := by
  refine Met.ofW (cc := cJ0_charAt_5068e) (maxL := 2) (ret := (some .char)) (by decide) rfl ?_
  intro p e s m args below meth c s₁ B hml hv
  obtain ⟨rfl, hsz, hP, hK, hD0, hM⟩ := hv
  have hx := B.exec
  have hb := B.bytes
  have hr := B.returns
  have hts := atoms_spec (ws := wm_j_charAt) B.pre
  have hown : s.vm.findClass RJ0 = some m.cls := findClass_of_methodNamed B.named
  have hlocks := B.notSynchronized
  subst hsz
  have hD := hD0.self (sz := s.heap.size)
  generalize hAe : va_A [] s.heap.size = A at hD hM ⊢
  have hA : ∀ q : Nat, s.heap.size ≤ q → A q := fun q h => by rw [← hAe]; exact Or.inr h
  have hS : va_S A s.heap s.heap [] := va_S.rf
  have hP : va_P (dC, dI) vwCl [] s.heap := hP
  have hl := lv_entry ([.ref (ad i), .int (nI j)]) (n := 2) (Nat.le_of_ble_eq_true rfl)
  rw [lg_entry_eq]
  generalize (lg_sl ([.ref (ad i), .int (nI j)]) ++ List.replicate (2 - (lg_sl ([.ref (ad i), .int (nI j)])).length) Slot.unset).toArray = ls at hl ⊢
  have hl : lv_has ls 2 [(0, .ref (ad i)), (1, .int (nI j))] := hl
  have hStr := st_at hM i hi
  have hsL := sL_le i
  obtain ⟨fS, hT⟩ := hStr.2.2.2
  refine lv_aload_n hx hb dJ0_charAt_5068e_0 rfl (lv_at hl 0 rfl) ?_
  have hPc := hP.sub (ws' := []) [] rfl
  have hDc := hD.sub (ws' := []) [] (by decide) rfl
  have hKc := hK.sub (tys' := []) [] rfl
  have hFc := va_free (wc := []) hD hS hA [] rfl
  refine va_calli (va_runV (As := []) (rest := []) ⟨hx, hb, hml, hown, hts⟩ (j_isLatin1 l dC dI ad av s.heap.size i (by omega)) (cwV 0 hts (gi_4 (List.mem_cons_of_mem _ (List.mem_append_left _ (List.mem_of_getElem? (i := 0) rfl))) (List.mem_cons_of_mem _ (List.mem_append_left _ (List.mem_of_getElem? (i := 1) rfl))) (List.mem_cons_of_mem _ (List.mem_append_left _ (List.mem_of_getElem? (i := 2) rfl))) (List.mem_cons_of_mem _ (List.mem_append_left _ (List.mem_of_getElem? (i := 3) rfl))) (fun _ hh => (List.mem_cons_of_mem _ (List.mem_append_right _ (List.mem_append_left _ hh)))) gd_j_isLatin1) rfl rfl rfl (by decide +kernel) ⟨Nat.le_of_ble_eq_true rfl, Nat.le_of_ble_eq_true rfl⟩) ⟨pr_blind, (st_recv (st_at hM i (by omega)) hS), pr_use hPc hKc hDc hFc hS hM⟩ rfl rfl hl.1 rfl (lv_room (Nat.le_of_ble_eq_true rfl)) dJ0_charAt_5068e_1 ⟨Nat.le_of_ble_eq_true rfl, Nat.le_of_ble_eq_true rfl⟩) hS (fun q _ h => hFc q h) hFc (fun r_6 u t H locs ht hvm hw hB hz1 hk1 hS => ?_)
  refine W.widen (k := 0) (n := 0) (Nat.le_of_ble_eq_true rfl) (Nat.le_of_ble_eq_true rfl) ?_
  subst hw
  obtain ⟨hre_7, hP1, hK1, hD1⟩ := hB
  refine lq_top (v := 1) hre_7 ?_
  rw [ht] at hP1
  have hK1 := va_K.moved hvm.symm hK1
  obtain ⟨hP, hD⟩ := va_join (wr := []) (w1 := []) hP hD [] [] rfl rfl (by decide) (by decide) hk1 hFc hP1 hD1
  have hK := (hK.sub (tys' := []) [] rfl).app hK1
  have hP : va_P (dC, dI) vwCl [] H := hP
  have hD : va_D A [] := hD
  have hK : va_K (dC, dI) vwCl [] s := hK
  refine lv_if_eq (tgt := 16) hx hb dJ0_charAt_5068e_4 (by decide) (fun c_8 => absurd c_8 (by decide)) (fun c_8 => ?_)
  refine lv_aload_n hx hb dJ0_charAt_5068e_7 rfl (lv_at hl 0 rfl) ?_
  refine vk_getf hx hb hStr.2.2.1 hS hown (hts (.fieldLink RJ0 9 "java/lang/String" "value" "[B") (List.mem_cons_of_mem _ (List.mem_append_left _ (List.mem_of_getElem? (i := 4) rfl)))) (fun _ h9 => h9) dJ0_charAt_5068e_8 ?_
  refine lv_iload_n hx hb dJ0_charAt_5068e_11 rfl (lv_at hl 1 rfl) ?_
  have hPc := hP.sub (ws' := []) [] rfl
  have hDc := hD.sub (ws' := []) [] (by decide) rfl
  have hKc := hK.sub (tys' := []) [] rfl
  have hFc := va_free (wc := []) hD hS hA [] rfl
  refine va_calli (va_runS (As := [.ref (av i), .int (nI j)]) (rest := []) ⟨hx, hb, hml, hown, hts⟩ (j_charAtB l dC dI ad av H.size i j (by omega) (by omega)) (va_cwS 2 hts (gi_3 (List.mem_cons_of_mem _ (List.mem_append_left _ (List.mem_of_getElem? (i := 5) rfl))) (List.mem_cons_of_mem _ (List.mem_append_left _ (List.mem_of_getElem? (i := 6) rfl))) (List.mem_cons_of_mem _ (List.mem_append_left _ (List.mem_of_getElem? (i := 7) rfl))) (fun _ hh => (List.mem_cons_of_mem _ (List.mem_append_right _ (List.mem_append_right _ (List.mem_append_left _ hh))))) gd_j_charAtB) rfl rfl rfl (by decide +kernel) ⟨Nat.le_of_ble_eq_true rfl, Nat.le_of_ble_eq_true rfl⟩) ⟨pr_blind, pr_use hPc hKc hDc hFc hS hM⟩ rfl rfl hl.1 rfl (lv_room (Nat.le_of_ble_eq_true rfl)) dJ0_charAt_5068e_12 ⟨Nat.le_of_ble_eq_true rfl, Nat.le_of_ble_eq_true rfl⟩) hS (fun q _ h => hFc q h) hFc (fun r_9 u t H locs ht hvm hw hB hz1 hk1 hS => ?_)
  refine W.widen (k := 0) (n := 0) (Nat.le_of_ble_eq_true rfl) (Nat.le_of_ble_eq_true rfl) ?_
  subst hw
  obtain ⟨r_10, hre_11, hf_12, hP1, hK1, hD1⟩ := hB
  refine lq_top (v := r_10) hre_11 ?_
  rw [ht] at hP1
  have hK1 := va_K.moved hvm.symm hK1
  obtain ⟨hP, hD⟩ := va_join (wr := []) (w1 := []) hP hD [] [] rfl rfl (by decide) (by decide) hk1 hFc hP1 hD1
  have hK := (hK.sub (tys' := []) [] rfl).app hK1
  have hP : va_P (dC, dI) vwCl [] H := hP
  have hD : va_D A [] := hD
  have hK : va_K (dC, dI) vwCl [] s := hK
  have hP9 := hP.sub (ws' := []) [] rfl
  have hD9 := hD.sub (ws' := []) [] (by decide) rfl
  have hK9 := hK.sub (tys' := []) [] rfl
  exact W.zret (v := r_10) hx hb hr hf_12 (fun t ht hW => ⟨⟨r_10, r_10, rfl, rfl, ⟨r_10, rfl, hf_12, by rw [ht]; exact hP9, va_K.moved hW.alike hK9, hD9⟩⟩, hS.F ht⟩) hS.2.2 dJ0_charAt_5068e_15
