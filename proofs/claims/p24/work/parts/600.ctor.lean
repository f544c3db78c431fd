theorem dX10_init_0 : decode cX10_init 0 = .ok (.aload_n 0, 1) := by decide +kernel
theorem dX10_init_1 : decode cX10_init 1 = .ok (.invokespecial 3, 3) := by decide +kernel
theorem dX10_init_10 : decode cX10_init 10 = .ok (.putfield 11, 3) := by decide +kernel
theorem dX10_init_101 : decode cX10_init 101 = .ok (.invokespecial 59, 3) := by decide +kernel
theorem dX10_init_104 : decode cX10_init 104 = .ok (.aastore, 1) := by decide +kernel
theorem dX10_init_105 : decode cX10_init 105 = .ok (.iinc 1 1, 3) := by decide +kernel
theorem dX10_init_108 : decode cX10_init 108 = .ok (.goto (-53), 3) := by decide +kernel
theorem dX10_init_111 : decode cX10_init 111 = .ok (.return_, 1) := by decide +kernel
theorem dX10_init_13 : decode cX10_init 13 = .ok (.aload_n 0, 1) := by decide +kernel
theorem dX10_init_14 : decode cX10_init 14 = .ok (.iconst 0, 1) := by decide +kernel
theorem dX10_init_15 : decode cX10_init 15 = .ok (.putfield 17, 3) := by decide +kernel
theorem dX10_init_18 : decode cX10_init 18 = .ok (.aload_n 0, 1) := by decide +kernel
theorem dX10_init_19 : decode cX10_init 19 = .ok (.bipush 8, 2) := by decide +kernel
theorem dX10_init_21 : decode cX10_init 21 = .ok (.newarray .int, 2) := by decide +kernel
theorem dX10_init_23 : decode cX10_init 23 = .ok (.putfield 21, 3) := by decide +kernel
theorem dX10_init_26 : decode cX10_init 26 = .ok (.aload_n 0, 1) := by decide +kernel
theorem dX10_init_27 : decode cX10_init 27 = .ok (.iconst 4, 1) := by decide +kernel
theorem dX10_init_28 : decode cX10_init 28 = .ok (.anewarray 9, 3) := by decide +kernel
theorem dX10_init_31 : decode cX10_init 31 = .ok (.putfield 25, 3) := by decide +kernel
theorem dX10_init_34 : decode cX10_init 34 = .ok (.aload_n 0, 1) := by decide +kernel
theorem dX10_init_35 : decode cX10_init 35 = .ok (.new 28, 3) := by decide +kernel
theorem dX10_init_38 : decode cX10_init 38 = .ok (.dup, 1) := by decide +kernel
theorem dX10_init_39 : decode cX10_init 39 = .ok (.invokespecial 30, 3) := by decide +kernel
theorem dX10_init_4 : decode cX10_init 4 = .ok (.aload_n 0, 1) := by decide +kernel
theorem dX10_init_42 : decode cX10_init 42 = .ok (.putfield 31, 3) := by decide +kernel
theorem dX10_init_45 : decode cX10_init 45 = .ok (.aload_n 0, 1) := by decide +kernel
theorem dX10_init_46 : decode cX10_init 46 = .ok (.bipush 60, 2) := by decide +kernel
theorem dX10_init_48 : decode cX10_init 48 = .ok (.newarray .int, 2) := by decide +kernel
theorem dX10_init_5 : decode cX10_init 5 = .ok (.bipush 20, 2) := by decide +kernel
theorem dX10_init_50 : decode cX10_init 50 = .ok (.putfield 35, 3) := by decide +kernel
theorem dX10_init_53 : decode cX10_init 53 = .ok (.iconst 0, 1) := by decide +kernel
theorem dX10_init_54 : decode cX10_init 54 = .ok (.istore_n 1, 1) := by decide +kernel
theorem dX10_init_55 : decode cX10_init 55 = .ok (.iload_n 1, 1) := by decide +kernel
theorem dX10_init_56 : decode cX10_init 56 = .ok (.iconst 4, 1) := by decide +kernel
theorem dX10_init_57 : decode cX10_init 57 = .ok (.if_icmp .ge 54, 3) := by decide +kernel
theorem dX10_init_60 : decode cX10_init 60 = .ok (.iload_n 1, 1) := by decide +kernel
theorem dX10_init_61 : decode cX10_init 61 = .ok (.invokestatic 38, 3) := by decide +kernel
theorem dX10_init_64 : decode cX10_init 64 = .ok (.invokevirtual 42, 3) := by decide +kernel
theorem dX10_init_67 : decode cX10_init 67 = .ok (.astore_n 2, 1) := by decide +kernel
theorem dX10_init_68 : decode cX10_init 68 = .ok (.aload_n 0, 1) := by decide +kernel
theorem dX10_init_69 : decode cX10_init 69 = .ok (.getfield 31, 3) := by decide +kernel
theorem dX10_init_7 : decode cX10_init 7 = .ok (.anewarray 9, 3) := by decide +kernel
theorem dX10_init_72 : decode cX10_init 72 = .ok (.aload_n 2, 1) := by decide +kernel
theorem dX10_init_73 : decode cX10_init 73 = .ok (.aload_n 2, 1) := by decide +kernel
theorem dX10_init_74 : decode cX10_init 74 = .ok (.arraylength, 1) := by decide +kernel
theorem dX10_init_75 : decode cX10_init 75 = .ok (.iload_n 1, 1) := by decide +kernel
theorem dX10_init_76 : decode cX10_init 76 = .ok (.invokestatic 48, 3) := by decide +kernel
theorem dX10_init_79 : decode cX10_init 79 = .ok (.invokevirtual 51, 3) := by decide +kernel
theorem dX10_init_82 : decode cX10_init 82 = .ok (.pop, 1) := by decide +kernel
theorem dX10_init_83 : decode cX10_init 83 = .ok (.aload_n 0, 1) := by decide +kernel
theorem dX10_init_84 : decode cX10_init 84 = .ok (.getfield 25, 3) := by decide +kernel
theorem dX10_init_87 : decode cX10_init 87 = .ok (.iload_n 1, 1) := by decide +kernel
theorem dX10_init_88 : decode cX10_init 88 = .ok (.new 9, 3) := by decide +kernel
theorem dX10_init_91 : decode cX10_init 91 = .ok (.dup, 1) := by decide +kernel
theorem dX10_init_92 : decode cX10_init 92 = .ok (.iload_n 1, 1) := by decide +kernel
theorem dX10_init_93 : decode cX10_init 93 = .ok (.iconst 0, 1) := by decide +kernel
theorem dX10_init_94 : decode cX10_init 94 = .ok (.aload_n 0, 1) := by decide +kernel
theorem dX10_init_95 : decode cX10_init 95 = .ok (.getfield 31, 3) := by decide +kernel
theorem dX10_init_98 : decode cX10_init 98 = .ok (.invokevirtual 55, 3) := by decide +kernel
theorem dX10_textAtFirst_0 : decode cX10_textAtFirst 0 = .ok (.iload_n 0, 1) := by decide +kernel
theorem dX10_textAtFirst_1 : decode cX10_textAtFirst 1 = .ok (.tableswitch 36 0 2 #[27, 30, 33], 27) := by decide +kernel
theorem dX10_textAtFirst_28 : decode cX10_textAtFirst 28 = .ok (.ldc 70, 2) := by decide +kernel
theorem dX10_textAtFirst_30 : decode cX10_textAtFirst 30 = .ok (.areturn, 1) := by decide +kernel
theorem dX10_textAtFirst_31 : decode cX10_textAtFirst 31 = .ok (.ldc 72, 2) := by decide +kernel
theorem dX10_textAtFirst_33 : decode cX10_textAtFirst 33 = .ok (.areturn, 1) := by decide +kernel
theorem dX10_textAtFirst_34 : decode cX10_textAtFirst 34 = .ok (.ldc 74, 2) := by decide +kernel
theorem dX10_textAtFirst_36 : decode cX10_textAtFirst 36 = .ok (.areturn, 1) := by decide +kernel
theorem dX10_textAtFirst_37 : decode cX10_textAtFirst 37 = .ok (.ldc 76, 2) := by decide +kernel
theorem dX10_textAtFirst_39 : decode cX10_textAtFirst 39 = .ok (.areturn, 1) := by decide +kernel
theorem dX1_init_0 : decode cX1_init 0 = .ok (.aload_n 0, 1) := by decide +kernel
theorem dX1_init_1 : decode cX1_init 1 = .ok (.invokespecial 3, 3) := by decide +kernel
theorem dX1_init_11 : decode cX1_init 11 = .ok (.aload_n 0, 1) := by decide +kernel
theorem dX1_init_12 : decode cX1_init 12 = .ok (.iconst 0, 1) := by decide +kernel
theorem dX1_init_13 : decode cX1_init 13 = .ok (.putfield 15, 3) := by decide +kernel
theorem dX1_init_16 : decode cX1_init 16 = .ok (.aload_n 0, 1) := by decide +kernel
theorem dX1_init_17 : decode cX1_init 17 = .ok (.bipush 8, 2) := by decide +kernel
theorem dX1_init_19 : decode cX1_init 19 = .ok (.anewarray 19, 3) := by decide +kernel
theorem dX1_init_22 : decode cX1_init 22 = .ok (.putfield 21, 3) := by decide +kernel
theorem dX1_init_25 : decode cX1_init 25 = .ok (.aload_n 0, 1) := by decide +kernel
theorem dX1_init_26 : decode cX1_init 26 = .ok (.iconst 0, 1) := by decide +kernel
theorem dX1_init_27 : decode cX1_init 27 = .ok (.putfield 25, 3) := by decide +kernel
theorem dX1_init_30 : decode cX1_init 30 = .ok (.aload_n 0, 1) := by decide +kernel
theorem dX1_init_31 : decode cX1_init 31 = .ok (.bipush 30, 2) := by decide +kernel
theorem dX1_init_33 : decode cX1_init 33 = .ok (.anewarray 28, 3) := by decide +kernel
theorem dX1_init_36 : decode cX1_init 36 = .ok (.putfield 30, 3) := by decide +kernel
theorem dX1_init_39 : decode cX1_init 39 = .ok (.aload_n 0, 1) := by decide +kernel
theorem dX1_init_4 : decode cX1_init 4 = .ok (.aload_n 0, 1) := by decide +kernel
theorem dX1_init_40 : decode cX1_init 40 = .ok (.iconst 0, 1) := by decide +kernel
theorem dX1_init_41 : decode cX1_init 41 = .ok (.putfield 34, 3) := by decide +kernel
theorem dX1_init_44 : decode cX1_init 44 = .ok (.aload_n 0, 1) := by decide +kernel
theorem dX1_init_45 : decode cX1_init 45 = .ok (.bipush 30, 2) := by decide +kernel
theorem dX1_init_47 : decode cX1_init 47 = .ok (.anewarray 37, 3) := by decide +kernel
theorem dX1_init_5 : decode cX1_init 5 = .ok (.iconst 4, 1) := by decide +kernel
theorem dX1_init_50 : decode cX1_init 50 = .ok (.putfield 39, 3) := by decide +kernel
theorem dX1_init_53 : decode cX1_init 53 = .ok (.aload_n 0, 1) := by decide +kernel
theorem dX1_init_54 : decode cX1_init 54 = .ok (.iconst 0, 1) := by decide +kernel
theorem dX1_init_55 : decode cX1_init 55 = .ok (.putfield 43, 3) := by decide +kernel
theorem dX1_init_58 : decode cX1_init 58 = .ok (.return_, 1) := by decide +kernel
theorem dX1_init_6 : decode cX1_init 6 = .ok (.newarray .int, 2) := by decide +kernel
theorem dX1_init_8 : decode cX1_init 8 = .ok (.putfield 9, 3) := by decide +kernel
theorem dX8_init_0 : decode cX8_init 0 = .ok (.aload_n 0, 1) := by decide +kernel
theorem dX8_init_1 : decode cX8_init 1 = .ok (.invokespecial 3, 3) := by decide +kernel
theorem dX8_init_12 : decode cX8_init 12 = .ok (.aload_n 0, 1) := by decide +kernel
theorem dX8_init_13 : decode cX8_init 13 = .ok (.bipush 60, 2) := by decide +kernel
theorem dX8_init_15 : decode cX8_init 15 = .ok (.newarray .char, 2) := by decide +kernel
theorem dX8_init_17 : decode cX8_init 17 = .ok (.putfield 15, 3) := by decide +kernel
theorem dX8_init_20 : decode cX8_init 20 = .ok (.return_, 1) := by decide +kernel
theorem dX8_init_4 : decode cX8_init 4 = .ok (.aload_n 0, 1) := by decide +kernel
theorem dX8_init_5 : decode cX8_init 5 = .ok (.bipush 60, 2) := by decide +kernel
theorem dX8_init_7 : decode cX8_init 7 = .ok (.newarray .int, 2) := by decide +kernel
theorem dX8_init_9 : decode cX8_init 9 = .ok (.putfield 11, 3) := by decide +kernel
theorem tb_2 (x : Int32) : x = 0 ∨ x = 1 ∨ x = 2 ∨ (x.toInt < 0 ∨ 2 < x.toInt) := by
  have key : ∀ k : Int32, x.toInt = k.toInt → x = k := fun k h => Int32.toInt_inj.mp h
  by_cases h1 : x.toInt < 0
  · exact (Or.inr (Or.inr (Or.inr (Or.inl h1))))
  · by_cases h2 : (2 : Int) < x.toInt
    · exact (Or.inr (Or.inr (Or.inr (Or.inr h2))))
    · have h3 : x.toInt = 0 ∨ x.toInt = 1 ∨ x.toInt = 2 := by omega
      rcases h3 with h | h | h
      · exact (Or.inl (key 0 (by rw [h]; decide)))
      · exact (Or.inr (Or.inl (key 1 (by rw [h]; decide))))
      · exact (Or.inr (Or.inr (Or.inl (key 2 (by rw [h]; decide)))))
def wo_o_c_Book_init : List Cond := [.methodLink RX1 3 objectInit, .instanceMethod objectInit, .code objectInit ⟨#[0xb1]⟩ 1 none, .arrayClass .int, .fieldLink RX1 9 "TypingPool$Book" "posts" "[I", .fieldLink RX1 15 "TypingPool$Book" "postCount" "I", .classLink RX1 19 RX4, .fieldLink RX1 21 "TypingPool$Book" "hands" "[LTypingPool$Hand;", .fieldLink RX1 25 "TypingPool$Book" "handCount" "I", .classLink RX1 28 RX6, .fieldLink RX1 30 "TypingPool$Book" "pieces" "[LTypingPool$Piece;", .fieldLink RX1 34 "TypingPool$Book" "pieceCount" "I", .classLink RX1 37 RX0, .fieldLink RX1 39 "TypingPool$Book" "aways" "[LTypingPool$Away;", .fieldLink RX1 43 "TypingPool$Book" "awayCount" "I"]
def wm_o_c_Book_init : List Cond := .code yX1_init cX1_init 1 none :: (wo_o_c_Book_init ++ (wsX10 ++ ([] : List Cond)))
theorem gd_o_c_Book_init : ∀ w ∈ wm_o_c_Book_init, goodWord w = true := gd_c rfl (gd_a (by decide) (gd_a gd_wsX10 gd_nil))
set_option maxRecDepth 20000 in
theorem im_o_c_Book_init : ∀ w ∈ wm_o_c_Book_init, w ∈ lw_tbl := im_c (in_r [.code yX1_init cX1_init 1 none] [108] (by decide +kernel)) (in_app (in_r wo_o_c_Book_init [109, 102, 103, 155, 116, 118, 110, 120, 123, 112, 126, 131, 114, 135, 136] (by decide +kernel)) (in_app im_wsX10 im_nil))
set_option maxHeartbeats 4000000 in
set_option maxRecDepth 100000 in
theorem o_c_Book_init (l : Launch) (dC : Nat → ClassId) (dI : Nat → Nat → Nat) (ad av : Nat → Nat) (sz : Nat) (h0 : Nat) : Met l yX1_init wm_o_c_Book_init ({ frames := 1, cells := 4, slots := 72, locals := 12 }) (pr_ ad av (dC, dI) sz [.ref h0] [(h0, .inr (1, [.null, .int 0, .null, .int 0, .null, .int 0, .null, .int 0]))] []) (va_Qv (fun (_ : Unit) => True) (fun (_ : Unit) (t : State) => (∃ (b0 : Nat), ∃ (b1 : Nat), ∃ (b2 : Nat), ∃ (b3 : Nat), ∃ (k0 : ClassId), ∃ (k1 : ClassId), ∃ (k2 : ClassId), ∃ (k3 : ClassId), po_ (dC, dI) (va_A [(h0, .inr (1, [.null, .int 0, .null, .int 0, .null, .int 0, .null, .int 0]))] sz) [(h0, .inr (1, [.ref b0, .int 0, .ref b1, .int 0, .ref b2, .int 0, .ref b3, .int 0])), (b0, .inl (k0, 4, .inl (fun _ => 0))), (b1, .inl (k1, 8, .inr (.inr (.inr (.inr (fun _ => none)))))), (b2, .inl (k2, 30, .inr (.inr (.inr (.inr (fun _ => none)))))), (b3, .inl (k3, 30, .inr (.inr (.inr (.inr (fun _ => none))))))] [(k0, .int), (k1, .object RX4), (k2, .object RX6), (k3, .object RX0)] t)) (va_A [(h0, .inr (1, [.null, .int 0, .null, .int 0, .null, .int 0, .null, .int 0]))] sz)) 4 72 (va_A [(h0, .inr (1, [.null, .int 0, .null, .int 0, .null, .int 0, .null, .int 0]))] sz) := by
  refine Met.ofW (cc := cX1_init) (maxL := 1) (ret := none) (by decide) rfl ?_
  intro p e s m args below meth c s₁ B hml hv
  obtain ⟨rfl, hsz, hP, hK, hD0, hM⟩ := hv
  have hx := B.exec
  have hb := B.bytes
  have hr := B.returns
  have hts := atoms_spec (ws := wm_o_c_Book_init) B.pre
  have hown : s.vm.findClass RX1 = some m.cls := findClass_of_methodNamed B.named
  have hlocks := B.notSynchronized
  have hin : meth.name = "<init>" := (name_of_methodNamed B.named B.method).1
  subst hsz
  have hD := hD0.self (sz := s.heap.size)
  generalize hAe : va_A [(h0, .inr (1, [.null, .int 0, .null, .int 0, .null, .int 0, .null, .int 0]))] s.heap.size = A at hD hM ⊢
  have hA : ∀ q : Nat, s.heap.size ≤ q → A q := fun q h => by rw [← hAe]; exact Or.inr h
  have hS : va_S A s.heap s.heap [] := va_S.rf
  have hP : va_P (dC, dI) vwCl [(h0, .inr (1, [.null, .int 0, .null, .int 0, .null, .int 0, .null, .int 0]))] s.heap := hP
  have hl := lv_entry ([.ref h0]) (n := 1) (Nat.le_of_ble_eq_true rfl)
  rw [lg_entry_eq]
  generalize (lg_sl ([.ref h0]) ++ List.replicate (1 - (lg_sl ([.ref h0])).length) Slot.unset).toArray = ls at hl ⊢
  have hl : lv_has ls 1 [(0, .ref h0)] := hl
  refine lv_aload_n hx hb dX1_init_0 rfl (lv_at hl 0 rfl) ?_
  refine W.objInit hx hb hown (hts (.methodLink RX1 3 objectInit) (List.mem_cons_of_mem _ (List.mem_append_left _ (List.mem_of_getElem? (i := 0) rfl)))) (hts (.instanceMethod objectInit) (List.mem_cons_of_mem _ (List.mem_append_left _ (List.mem_of_getElem? (i := 1) rfl)))) (hts (.code objectInit ⟨#[0xb1]⟩ 1 none) (List.mem_cons_of_mem _ (List.mem_append_left _ (List.mem_of_getElem? (i := 2) rfl)))) rfl (by rw [hml]; exact hl.1) rfl dX1_init_1 (Nat.le_of_ble_eq_true rfl) (Nat.le_of_ble_eq_true rfl) ?_
  refine W.eq (g2 := F0 m 4 ls []) rfl ?_
  refine lv_aload_n hx hb dX1_init_4 rfl (lv_at hl 0 rfl) ?_
  refine lv_iconst (v := 4) hx hb dX1_init_5 (by decide) ?_
  refine va_newa (atype := .int) hx hb (hts (.arrayClass .int) (List.mem_cons_of_mem _ (List.mem_append_left _ (List.mem_of_getElem? (i := 3) rfl)))) (ty := .int) rfl hK hP hD hS hA (N' := 4) (a0 := (4, .inl (fun _ => 0))) (fun _ => rfl) (by decide) (by decide) (by decide) (Nat.le_of_ble_eq_true rfl) (Nat.le_of_ble_eq_true rfl) dX1_init_6 (fun q_315 cA_316 H hK hP hD hS => ?_)
  refine W.widen (k := 1) (n := 4) (Nat.le_of_ble_eq_true rfl) (by omega) ?_
  have hP : va_P (dC, dI) vwCl [(h0, .inr (1, [.null, .int 0, .null, .int 0, .null, .int 0, .null, .int 0])), (q_315, .inl (cA_316, 4, .inl (fun _ => 0)))] H := hP
  have hD : va_D A [(h0, .inr (1, [.null, .int 0, .null, .int 0, .null, .int 0, .null, .int 0])), (q_315, .inl (cA_316, 4, .inl (fun _ => 0)))] := hD
  have hK : va_K (dC, dI) vwCl [(cA_316, .int)] s := hK
  refine va_putF (D := (dC, dI)) (ci := 1) (v := .ref q_315) (ty := .array .int) (C := RX1) (T := TX1) (N := 8) hx hb hts (fun _ hh => (List.mem_cons_of_mem _ (List.mem_append_right _ (List.mem_append_left _ hh)))) tyX1 tyX1_ok nmX1 hown hK hP hD hS 0 rfl rfl 0 (by decide) (hts (.fieldLink RX1 9 "TypingPool$Book" "posts" "[I") (List.mem_cons_of_mem _ (List.mem_append_left _ (List.mem_of_getElem? (i := 4) rfl)))) (fun _ h9 => h9) rfl hin rfl (tyX1_ok 0 (by decide)) rfl rfl (Nat.le_of_ble_eq_true rfl) dX1_init_8 (fun H locs hP hD hS => ?_)
  have hP : va_P (dC, dI) vwCl [(h0, .inr (1, [.ref q_315, .int 0, .null, .int 0, .null, .int 0, .null, .int 0])), (q_315, .inl (cA_316, 4, .inl (fun _ => 0)))] H := hP
  have hD : va_D A [(h0, .inr (1, [.ref q_315, .int 0, .null, .int 0, .null, .int 0, .null, .int 0])), (q_315, .inl (cA_316, 4, .inl (fun _ => 0)))] := hD
  refine lv_aload_n hx hb dX1_init_11 rfl (lv_at hl 0 rfl) ?_
  refine lv_iconst (v := 0) hx hb dX1_init_12 (by decide) ?_
  refine va_put (D := (dC, dI)) (ci := 1) (v := .int 0) (ty := .int) (C := RX1) (T := TX1) (N := 8) hx hb hts (fun _ hh => (List.mem_cons_of_mem _ (List.mem_append_right _ (List.mem_append_left _ hh)))) tyX1 tyX1_ok nmX1 hown hK hP hD hS 0 rfl rfl 1 (by decide) (hts (.fieldLink RX1 15 "TypingPool$Book" "postCount" "I") (List.mem_cons_of_mem _ (List.mem_append_left _ (List.mem_of_getElem? (i := 5) rfl)))) (fun _ h9 => h9) rfl (tyX1_ok 1 (by decide)) rfl rfl (Nat.le_of_ble_eq_true rfl) dX1_init_13 (fun H locs hP hD hS => ?_)
  have hP : va_P (dC, dI) vwCl [(h0, .inr (1, [.ref q_315, .int 0, .null, .int 0, .null, .int 0, .null, .int 0])), (q_315, .inl (cA_316, 4, .inl (fun _ => 0)))] H := hP
  have hD : va_D A [(h0, .inr (1, [.ref q_315, .int 0, .null, .int 0, .null, .int 0, .null, .int 0])), (q_315, .inl (cA_316, 4, .inl (fun _ => 0)))] := hD
  refine lv_aload_n hx hb dX1_init_16 rfl (lv_at hl 0 rfl) ?_
  refine lv_bipush (v := 8) hx hb dX1_init_17 (by decide) ?_
  refine va_newq (C := RX4) hx hb hown (hts (.classLink RX1 19 RX4) (List.mem_cons_of_mem _ (List.mem_append_left _ (List.mem_of_getElem? (i := 6) rfl)))) hM.2.1.2.2.1 hK hP hD hS hA (N' := 8) (by decide) (by decide) (by decide) (Nat.le_of_ble_eq_true rfl) (Nat.le_of_ble_eq_true rfl) dX1_init_19 (fun q_317 cA_318 H hK hP hD hS => ?_)
  refine W.widen (k := 2) (n := 12) (Nat.le_of_ble_eq_true rfl) (by omega) ?_
  have hP : va_P (dC, dI) vwCl [(h0, .inr (1, [.ref q_315, .int 0, .null, .int 0, .null, .int 0, .null, .int 0])), (q_315, .inl (cA_316, 4, .inl (fun _ => 0))), (q_317, .inl (cA_318, 8, .inr (.inr (.inr (.inr (fun _ => none))))))] H := hP
  have hD : va_D A [(h0, .inr (1, [.ref q_315, .int 0, .null, .int 0, .null, .int 0, .null, .int 0])), (q_315, .inl (cA_316, 4, .inl (fun _ => 0))), (q_317, .inl (cA_318, 8, .inr (.inr (.inr (.inr (fun _ => none))))))] := hD
  have hK : va_K (dC, dI) vwCl [(cA_316, .int), (cA_318, .object RX4)] s := hK
  refine va_putF (D := (dC, dI)) (ci := 1) (v := .ref q_317) (ty := .array (.object "TypingPool$Hand")) (C := RX1) (T := TX1) (N := 8) hx hb hts (fun _ hh => (List.mem_cons_of_mem _ (List.mem_append_right _ (List.mem_append_left _ hh)))) tyX1 tyX1_ok nmX1 hown hK hP hD hS 0 rfl rfl 2 (by decide) (hts (.fieldLink RX1 21 "TypingPool$Book" "hands" "[LTypingPool$Hand;") (List.mem_cons_of_mem _ (List.mem_append_left _ (List.mem_of_getElem? (i := 7) rfl)))) (fun _ h9 => h9) rfl hin rfl (tyX1_ok 2 (by decide)) rfl rfl (Nat.le_of_ble_eq_true rfl) dX1_init_22 (fun H locs hP hD hS => ?_)
  have hP : va_P (dC, dI) vwCl [(h0, .inr (1, [.ref q_315, .int 0, .ref q_317, .int 0, .null, .int 0, .null, .int 0])), (q_315, .inl (cA_316, 4, .inl (fun _ => 0))), (q_317, .inl (cA_318, 8, .inr (.inr (.inr (.inr (fun _ => none))))))] H := hP
  have hD : va_D A [(h0, .inr (1, [.ref q_315, .int 0, .ref q_317, .int 0, .null, .int 0, .null, .int 0])), (q_315, .inl (cA_316, 4, .inl (fun _ => 0))), (q_317, .inl (cA_318, 8, .inr (.inr (.inr (.inr (fun _ => none))))))] := hD
  refine lv_aload_n hx hb dX1_init_25 rfl (lv_at hl 0 rfl) ?_
  refine lv_iconst (v := 0) hx hb dX1_init_26 (by decide) ?_
  refine va_put (D := (dC, dI)) (ci := 1) (v := .int 0) (ty := .int) (C := RX1) (T := TX1) (N := 8) hx hb hts (fun _ hh => (List.mem_cons_of_mem _ (List.mem_append_right _ (List.mem_append_left _ hh)))) tyX1 tyX1_ok nmX1 hown hK hP hD hS 0 rfl rfl 3 (by decide) (hts (.fieldLink RX1 25 "TypingPool$Book" "handCount" "I") (List.mem_cons_of_mem _ (List.mem_append_left _ (List.mem_of_getElem? (i := 8) rfl)))) (fun _ h9 => h9) rfl (tyX1_ok 3 (by decide)) rfl rfl (Nat.le_of_ble_eq_true rfl) dX1_init_27 (fun H locs hP hD hS => ?_)
  have hP : va_P (dC, dI) vwCl [(h0, .inr (1, [.ref q_315, .int 0, .ref q_317, .int 0, .null, .int 0, .null, .int 0])), (q_315, .inl (cA_316, 4, .inl (fun _ => 0))), (q_317, .inl (cA_318, 8, .inr (.inr (.inr (.inr (fun _ => none))))))] H := hP
  have hD : va_D A [(h0, .inr (1, [.ref q_315, .int 0, .ref q_317, .int 0, .null, .int 0, .null, .int 0])), (q_315, .inl (cA_316, 4, .inl (fun _ => 0))), (q_317, .inl (cA_318, 8, .inr (.inr (.inr (.inr (fun _ => none))))))] := hD
  refine lv_aload_n hx hb dX1_init_30 rfl (lv_at hl 0 rfl) ?_
  refine lv_bipush (v := 30) hx hb dX1_init_31 (by decide) ?_
  refine va_newq (C := RX6) hx hb hown (hts (.classLink RX1 28 RX6) (List.mem_cons_of_mem _ (List.mem_append_left _ (List.mem_of_getElem? (i := 9) rfl)))) hM.2.1.2.2.2.1 hK hP hD hS hA (N' := 30) (by decide) (by decide) (by decide) (Nat.le_of_ble_eq_true rfl) (Nat.le_of_ble_eq_true rfl) dX1_init_33 (fun q_319 cA_320 H hK hP hD hS => ?_)
  refine W.widen (k := 3) (n := 42) (Nat.le_of_ble_eq_true rfl) (by omega) ?_
  have hP : va_P (dC, dI) vwCl [(h0, .inr (1, [.ref q_315, .int 0, .ref q_317, .int 0, .null, .int 0, .null, .int 0])), (q_315, .inl (cA_316, 4, .inl (fun _ => 0))), (q_317, .inl (cA_318, 8, .inr (.inr (.inr (.inr (fun _ => none)))))), (q_319, .inl (cA_320, 30, .inr (.inr (.inr (.inr (fun _ => none))))))] H := hP
  have hD : va_D A [(h0, .inr (1, [.ref q_315, .int 0, .ref q_317, .int 0, .null, .int 0, .null, .int 0])), (q_315, .inl (cA_316, 4, .inl (fun _ => 0))), (q_317, .inl (cA_318, 8, .inr (.inr (.inr (.inr (fun _ => none)))))), (q_319, .inl (cA_320, 30, .inr (.inr (.inr (.inr (fun _ => none))))))] := hD
  have hK : va_K (dC, dI) vwCl [(cA_316, .int), (cA_318, .object RX4), (cA_320, .object RX6)] s := hK
  refine va_putF (D := (dC, dI)) (ci := 1) (v := .ref q_319) (ty := .array (.object "TypingPool$Piece")) (C := RX1) (T := TX1) (N := 8) hx hb hts (fun _ hh => (List.mem_cons_of_mem _ (List.mem_append_right _ (List.mem_append_left _ hh)))) tyX1 tyX1_ok nmX1 hown hK hP hD hS 0 rfl rfl 4 (by decide) (hts (.fieldLink RX1 30 "TypingPool$Book" "pieces" "[LTypingPool$Piece;") (List.mem_cons_of_mem _ (List.mem_append_left _ (List.mem_of_getElem? (i := 10) rfl)))) (fun _ h9 => h9) rfl hin rfl (tyX1_ok 4 (by decide)) rfl rfl (Nat.le_of_ble_eq_true rfl) dX1_init_36 (fun H locs hP hD hS => ?_)
  have hP : va_P (dC, dI) vwCl [(h0, .inr (1, [.ref q_315, .int 0, .ref q_317, .int 0, .ref q_319, .int 0, .null, .int 0])), (q_315, .inl (cA_316, 4, .inl (fun _ => 0))), (q_317, .inl (cA_318, 8, .inr (.inr (.inr (.inr (fun _ => none)))))), (q_319, .inl (cA_320, 30, .inr (.inr (.inr (.inr (fun _ => none))))))] H := hP
  have hD : va_D A [(h0, .inr (1, [.ref q_315, .int 0, .ref q_317, .int 0, .ref q_319, .int 0, .null, .int 0])), (q_315, .inl (cA_316, 4, .inl (fun _ => 0))), (q_317, .inl (cA_318, 8, .inr (.inr (.inr (.inr (fun _ => none)))))), (q_319, .inl (cA_320, 30, .inr (.inr (.inr (.inr (fun _ => none))))))] := hD
  refine lv_aload_n hx hb dX1_init_39 rfl (lv_at hl 0 rfl) ?_
  refine lv_iconst (v := 0) hx hb dX1_init_40 (by decide) ?_
  refine va_put (D := (dC, dI)) (ci := 1) (v := .int 0) (ty := .int) (C := RX1) (T := TX1) (N := 8) hx hb hts (fun _ hh => (List.mem_cons_of_mem _ (List.mem_append_right _ (List.mem_append_left _ hh)))) tyX1 tyX1_ok nmX1 hown hK hP hD hS 0 rfl rfl 5 (by decide) (hts (.fieldLink RX1 34 "TypingPool$Book" "pieceCount" "I") (List.mem_cons_of_mem _ (List.mem_append_left _ (List.mem_of_getElem? (i := 11) rfl)))) (fun _ h9 => h9) rfl (tyX1_ok 5 (by decide)) rfl rfl (Nat.le_of_ble_eq_true rfl) dX1_init_41 (fun H locs hP hD hS => ?_)
  have hP : va_P (dC, dI) vwCl [(h0, .inr (1, [.ref q_315, .int 0, .ref q_317, .int 0, .ref q_319, .int 0, .null, .int 0])), (q_315, .inl (cA_316, 4, .inl (fun _ => 0))), (q_317, .inl (cA_318, 8, .inr (.inr (.inr (.inr (fun _ => none)))))), (q_319, .inl (cA_320, 30, .inr (.inr (.inr (.inr (fun _ => none))))))] H := hP
  have hD : va_D A [(h0, .inr (1, [.ref q_315, .int 0, .ref q_317, .int 0, .ref q_319, .int 0, .null, .int 0])), (q_315, .inl (cA_316, 4, .inl (fun _ => 0))), (q_317, .inl (cA_318, 8, .inr (.inr (.inr (.inr (fun _ => none)))))), (q_319, .inl (cA_320, 30, .inr (.inr (.inr (.inr (fun _ => none))))))] := hD
  refine lv_aload_n hx hb dX1_init_44 rfl (lv_at hl 0 rfl) ?_
  refine lv_bipush (v := 30) hx hb dX1_init_45 (by decide) ?_
  refine va_newq (C := RX0) hx hb hown (hts (.classLink RX1 37 RX0) (List.mem_cons_of_mem _ (List.mem_append_left _ (List.mem_of_getElem? (i := 12) rfl)))) hM.2.1.1 hK hP hD hS hA (N' := 30) (by decide) (by decide) (by decide) (Nat.le_of_ble_eq_true rfl) (Nat.le_of_ble_eq_true rfl) dX1_init_47 (fun q_321 cA_322 H hK hP hD hS => ?_)
  refine W.widen (k := 4) (n := 72) (Nat.le_of_ble_eq_true rfl) (by omega) ?_
  have hP : va_P (dC, dI) vwCl [(h0, .inr (1, [.ref q_315, .int 0, .ref q_317, .int 0, .ref q_319, .int 0, .null, .int 0])), (q_315, .inl (cA_316, 4, .inl (fun _ => 0))), (q_317, .inl (cA_318, 8, .inr (.inr (.inr (.inr (fun _ => none)))))), (q_319, .inl (cA_320, 30, .inr (.inr (.inr (.inr (fun _ => none)))))), (q_321, .inl (cA_322, 30, .inr (.inr (.inr (.inr (fun _ => none))))))] H := hP
  have hD : va_D A [(h0, .inr (1, [.ref q_315, .int 0, .ref q_317, .int 0, .ref q_319, .int 0, .null, .int 0])), (q_315, .inl (cA_316, 4, .inl (fun _ => 0))), (q_317, .inl (cA_318, 8, .inr (.inr (.inr (.inr (fun _ => none)))))), (q_319, .inl (cA_320, 30, .inr (.inr (.inr (.inr (fun _ => none)))))), (q_321, .inl (cA_322, 30, .inr (.inr (.inr (.inr (fun _ => none))))))] := hD
  have hK : va_K (dC, dI) vwCl [(cA_316, .int), (cA_318, .object RX4), (cA_320, .object RX6), (cA_322, .object RX0)] s := hK
  refine va_putF (D := (dC, dI)) (ci := 1) (v := .ref q_321) (ty := .array (.object "TypingPool$Away")) (C := RX1) (T := TX1) (N := 8) hx hb hts (fun _ hh => (List.mem_cons_of_mem _ (List.mem_append_right _ (List.mem_append_left _ hh)))) tyX1 tyX1_ok nmX1 hown hK hP hD hS 0 rfl rfl 6 (by decide) (hts (.fieldLink RX1 39 "TypingPool$Book" "aways" "[LTypingPool$Away;") (List.mem_cons_of_mem _ (List.mem_append_left _ (List.mem_of_getElem? (i := 13) rfl)))) (fun _ h9 => h9) rfl hin rfl (tyX1_ok 6 (by decide)) rfl rfl (Nat.le_of_ble_eq_true rfl) dX1_init_50 (fun H locs hP hD hS => ?_)
  have hP : va_P (dC, dI) vwCl [(h0, .inr (1, [.ref q_315, .int 0, .ref q_317, .int 0, .ref q_319, .int 0, .ref q_321, .int 0])), (q_315, .inl (cA_316, 4, .inl (fun _ => 0))), (q_317, .inl (cA_318, 8, .inr (.inr (.inr (.inr (fun _ => none)))))), (q_319, .inl (cA_320, 30, .inr (.inr (.inr (.inr (fun _ => none)))))), (q_321, .inl (cA_322, 30, .inr (.inr (.inr (.inr (fun _ => none))))))] H := hP
  have hD : va_D A [(h0, .inr (1, [.ref q_315, .int 0, .ref q_317, .int 0, .ref q_319, .int 0, .ref q_321, .int 0])), (q_315, .inl (cA_316, 4, .inl (fun _ => 0))), (q_317, .inl (cA_318, 8, .inr (.inr (.inr (.inr (fun _ => none)))))), (q_319, .inl (cA_320, 30, .inr (.inr (.inr (.inr (fun _ => none)))))), (q_321, .inl (cA_322, 30, .inr (.inr (.inr (.inr (fun _ => none))))))] := hD
  refine lv_aload_n hx hb dX1_init_53 rfl (lv_at hl 0 rfl) ?_
  refine lv_iconst (v := 0) hx hb dX1_init_54 (by decide) ?_
  refine va_put (D := (dC, dI)) (ci := 1) (v := .int 0) (ty := .int) (C := RX1) (T := TX1) (N := 8) hx hb hts (fun _ hh => (List.mem_cons_of_mem _ (List.mem_append_right _ (List.mem_append_left _ hh)))) tyX1 tyX1_ok nmX1 hown hK hP hD hS 0 rfl rfl 7 (by decide) (hts (.fieldLink RX1 43 "TypingPool$Book" "awayCount" "I") (List.mem_cons_of_mem _ (List.mem_append_left _ (List.mem_of_getElem? (i := 14) rfl)))) (fun _ h9 => h9) rfl (tyX1_ok 7 (by decide)) rfl rfl (Nat.le_of_ble_eq_true rfl) dX1_init_55 (fun H locs hP hD hS => ?_)
  have hP : va_P (dC, dI) vwCl [(h0, .inr (1, [.ref q_315, .int 0, .ref q_317, .int 0, .ref q_319, .int 0, .ref q_321, .int 0])), (q_315, .inl (cA_316, 4, .inl (fun _ => 0))), (q_317, .inl (cA_318, 8, .inr (.inr (.inr (.inr (fun _ => none)))))), (q_319, .inl (cA_320, 30, .inr (.inr (.inr (.inr (fun _ => none)))))), (q_321, .inl (cA_322, 30, .inr (.inr (.inr (.inr (fun _ => none))))))] H := hP
  have hD : va_D A [(h0, .inr (1, [.ref q_315, .int 0, .ref q_317, .int 0, .ref q_319, .int 0, .ref q_321, .int 0])), (q_315, .inl (cA_316, 4, .inl (fun _ => 0))), (q_317, .inl (cA_318, 8, .inr (.inr (.inr (.inr (fun _ => none)))))), (q_319, .inl (cA_320, 30, .inr (.inr (.inr (.inr (fun _ => none)))))), (q_321, .inl (cA_322, 30, .inr (.inr (.inr (.inr (fun _ => none))))))] := hD
  have hP9 := hP.sub (ws' := [(h0, .inr (1, [.ref q_315, .int 0, .ref q_317, .int 0, .ref q_319, .int 0, .ref q_321, .int 0])), (q_315, .inl (cA_316, 4, .inl (fun _ => 0))), (q_317, .inl (cA_318, 8, .inr (.inr (.inr (.inr (fun _ => none)))))), (q_319, .inl (cA_320, 30, .inr (.inr (.inr (.inr (fun _ => none)))))), (q_321, .inl (cA_322, 30, .inr (.inr (.inr (.inr (fun _ => none))))))]) [0, 1, 2, 3, 4] rfl
  have hD9 := hD.sub (ws' := [(h0, .inr (1, [.ref q_315, .int 0, .ref q_317, .int 0, .ref q_319, .int 0, .ref q_321, .int 0])), (q_315, .inl (cA_316, 4, .inl (fun _ => 0))), (q_317, .inl (cA_318, 8, .inr (.inr (.inr (.inr (fun _ => none)))))), (q_319, .inl (cA_320, 30, .inr (.inr (.inr (.inr (fun _ => none)))))), (q_321, .inl (cA_322, 30, .inr (.inr (.inr (.inr (fun _ => none))))))]) [0, 1, 2, 3, 4] (by decide) rfl
  have hK9 := hK.sub (tys' := [(cA_316, .int), (cA_318, .object RX4), (cA_320, .object RX6), (cA_322, .object RX0)]) [0, 1, 2, 3] rfl
  exact W.vret hx hb hr (fun t ht hW => ⟨⟨(), rfl, trivial, ⟨q_315, q_317, q_319, q_321, cA_316, cA_318, cA_320, cA_322, by rw [ht]; exact hP9, va_K.moved hW.alike hK9, hD9⟩⟩, hS.F ht⟩) hS.2.2 dX1_init_58
def wo_o_r_init : List Cond := [.methodLink RX8 3 objectInit, .instanceMethod objectInit, .code objectInit ⟨#[0xb1]⟩ 1 none, .arrayClass .int, .fieldLink RX8 11 "TypingPool$Reader" "code" "[I", .arrayClass .char, .fieldLink RX8 15 "TypingPool$Reader" "open" "[C"]
def wm_o_r_init : List Cond := .code yX8_init cX8_init 1 none :: (wo_o_r_init ++ (wsX80 ++ ([] : List Cond)))
theorem gd_o_r_init : ∀ w ∈ wm_o_r_init, goodWord w = true := gd_c rfl (gd_a (by decide) (gd_a gd_wsX80 gd_nil))
set_option maxRecDepth 20000 in
theorem im_o_r_init : ∀ w ∈ wm_o_r_init, w ∈ lw_tbl := im_c (in_r [.code yX8_init cX8_init 1 none] [168] (by decide +kernel)) (in_app (in_r wo_o_r_init [169, 102, 103, 155, 170, 195, 172] (by decide +kernel)) (in_app im_wsX80 im_nil))
set_option maxHeartbeats 4000000 in
set_option maxRecDepth 100000 in
theorem o_r_init (l : Launch) (dC : Nat → ClassId) (dI : Nat → Nat → Nat) (ad av : Nat → Nat) (sz : Nat) (h0 : Nat) : Met l yX8_init wm_o_r_init ({ frames := 1, cells := 2, slots := 120, locals := 12 }) (pr_ ad av (dC, dI) sz [.ref h0] [(h0, .inr (8, [.null, .int 0, .null, .int 0, .int 0, .int 0, .int 0, .int 0]))] []) (va_Qv (fun (_ : Unit) => True) (fun (_ : Unit) (t : State) => (∃ (q1 : Nat), ∃ (q2 : Nat), ∃ (k1 : ClassId), ∃ (k2 : ClassId), po_ (dC, dI) (va_A [(h0, .inr (8, [.null, .int 0, .null, .int 0, .int 0, .int 0, .int 0, .int 0]))] sz) [(h0, .inr (8, [.ref q1, .int 0, .ref q2, .int 0, .int 0, .int 0, .int 0, .int 0])), (q1, .inl (k1, 60, .inl (fun _ => 0))), (q2, .inl (k2, 60, .inl (fun _ => 0)))] [(k1, .int), (k2, .char)] t)) (va_A [(h0, .inr (8, [.null, .int 0, .null, .int 0, .int 0, .int 0, .int 0, .int 0]))] sz)) 2 120 (va_A [(h0, .inr (8, [.null, .int 0, .null, .int 0, .int 0, .int 0, .int 0, .int 0]))] sz) := by
  refine Met.ofW (cc := cX8_init) (maxL := 1) (ret := none) (by decide) rfl ?_
  intro p e s m args below meth c s₁ B hml hv
  obtain ⟨rfl, hsz, hP, hK, hD0, hM⟩ := hv
  have hx := B.exec
  have hb := B.bytes
  have hr := B.returns
  have hts := atoms_spec (ws := wm_o_r_init) B.pre
  have hown : s.vm.findClass RX8 = some m.cls := findClass_of_methodNamed B.named
  have hlocks := B.notSynchronized
  have hin : meth.name = "<init>" := (name_of_methodNamed B.named B.method).1
  subst hsz
  have hD := hD0.self (sz := s.heap.size)
  generalize hAe : va_A [(h0, .inr (8, [.null, .int 0, .null, .int 0, .int 0, .int 0, .int 0, .int 0]))] s.heap.size = A at hD hM ⊢
  have hA : ∀ q : Nat, s.heap.size ≤ q → A q := fun q h => by rw [← hAe]; exact Or.inr h
  have hS : va_S A s.heap s.heap [] := va_S.rf
  have hP : va_P (dC, dI) vwCl [(h0, .inr (8, [.null, .int 0, .null, .int 0, .int 0, .int 0, .int 0, .int 0]))] s.heap := hP
  have hl := lv_entry ([.ref h0]) (n := 1) (Nat.le_of_ble_eq_true rfl)
  rw [lg_entry_eq]
  generalize (lg_sl ([.ref h0]) ++ List.replicate (1 - (lg_sl ([.ref h0])).length) Slot.unset).toArray = ls at hl ⊢
  have hl : lv_has ls 1 [(0, .ref h0)] := hl
  refine lv_aload_n hx hb dX8_init_0 rfl (lv_at hl 0 rfl) ?_
  refine W.objInit hx hb hown (hts (.methodLink RX8 3 objectInit) (List.mem_cons_of_mem _ (List.mem_append_left _ (List.mem_of_getElem? (i := 0) rfl)))) (hts (.instanceMethod objectInit) (List.mem_cons_of_mem _ (List.mem_append_left _ (List.mem_of_getElem? (i := 1) rfl)))) (hts (.code objectInit ⟨#[0xb1]⟩ 1 none) (List.mem_cons_of_mem _ (List.mem_append_left _ (List.mem_of_getElem? (i := 2) rfl)))) rfl (by rw [hml]; exact hl.1) rfl dX8_init_1 (Nat.le_of_ble_eq_true rfl) (Nat.le_of_ble_eq_true rfl) ?_
  refine W.eq (g2 := F0 m 4 ls []) rfl ?_
  refine lv_aload_n hx hb dX8_init_4 rfl (lv_at hl 0 rfl) ?_
  refine lv_bipush (v := 60) hx hb dX8_init_5 (by decide) ?_
  refine va_newa (atype := .int) hx hb (hts (.arrayClass .int) (List.mem_cons_of_mem _ (List.mem_append_left _ (List.mem_of_getElem? (i := 3) rfl)))) (ty := .int) rfl hK hP hD hS hA (N' := 60) (a0 := (60, .inl (fun _ => 0))) (fun _ => rfl) (by decide) (by decide) (by decide) (Nat.le_of_ble_eq_true rfl) (Nat.le_of_ble_eq_true rfl) dX8_init_7 (fun q_311 cA_312 H hK hP hD hS => ?_)
  refine W.widen (k := 1) (n := 60) (Nat.le_of_ble_eq_true rfl) (by omega) ?_
  have hP : va_P (dC, dI) vwCl [(h0, .inr (8, [.null, .int 0, .null, .int 0, .int 0, .int 0, .int 0, .int 0])), (q_311, .inl (cA_312, 60, .inl (fun _ => 0)))] H := hP
  have hD : va_D A [(h0, .inr (8, [.null, .int 0, .null, .int 0, .int 0, .int 0, .int 0, .int 0])), (q_311, .inl (cA_312, 60, .inl (fun _ => 0)))] := hD
  have hK : va_K (dC, dI) vwCl [(cA_312, .int)] s := hK
  refine va_putF (D := (dC, dI)) (ci := 8) (v := .ref q_311) (ty := .array .int) (C := RX8) (T := TX8) (N := 8) hx hb hts (fun _ hh => (List.mem_cons_of_mem _ (List.mem_append_right _ (List.mem_append_left _ hh)))) tyX8 tyX8_ok nmX8 hown hK hP hD hS 0 rfl rfl 0 (by decide) (hts (.fieldLink RX8 11 "TypingPool$Reader" "code" "[I") (List.mem_cons_of_mem _ (List.mem_append_left _ (List.mem_of_getElem? (i := 4) rfl)))) (fun _ h9 => h9) rfl hin rfl (tyX8_ok 0 (by decide)) rfl rfl (Nat.le_of_ble_eq_true rfl) dX8_init_9 (fun H locs hP hD hS => ?_)
  have hP : va_P (dC, dI) vwCl [(h0, .inr (8, [.ref q_311, .int 0, .null, .int 0, .int 0, .int 0, .int 0, .int 0])), (q_311, .inl (cA_312, 60, .inl (fun _ => 0)))] H := hP
  have hD : va_D A [(h0, .inr (8, [.ref q_311, .int 0, .null, .int 0, .int 0, .int 0, .int 0, .int 0])), (q_311, .inl (cA_312, 60, .inl (fun _ => 0)))] := hD
  refine lv_aload_n hx hb dX8_init_12 rfl (lv_at hl 0 rfl) ?_
  refine lv_bipush (v := 60) hx hb dX8_init_13 (by decide) ?_
  refine va_newa (atype := .char) hx hb (hts (.arrayClass .char) (List.mem_cons_of_mem _ (List.mem_append_left _ (List.mem_of_getElem? (i := 5) rfl)))) (ty := .char) rfl hK hP hD hS hA (N' := 60) (a0 := (60, .inl (fun _ => 0))) (fun _ => rfl) (by decide) (by decide) (by decide) (Nat.le_of_ble_eq_true rfl) (Nat.le_of_ble_eq_true rfl) dX8_init_15 (fun q_313 cA_314 H hK hP hD hS => ?_)
  refine W.widen (k := 2) (n := 120) (Nat.le_of_ble_eq_true rfl) (by omega) ?_
  have hP : va_P (dC, dI) vwCl [(h0, .inr (8, [.ref q_311, .int 0, .null, .int 0, .int 0, .int 0, .int 0, .int 0])), (q_311, .inl (cA_312, 60, .inl (fun _ => 0))), (q_313, .inl (cA_314, 60, .inl (fun _ => 0)))] H := hP
  have hD : va_D A [(h0, .inr (8, [.ref q_311, .int 0, .null, .int 0, .int 0, .int 0, .int 0, .int 0])), (q_311, .inl (cA_312, 60, .inl (fun _ => 0))), (q_313, .inl (cA_314, 60, .inl (fun _ => 0)))] := hD
  have hK : va_K (dC, dI) vwCl [(cA_312, .int), (cA_314, .char)] s := hK
  refine va_putF (D := (dC, dI)) (ci := 8) (v := .ref q_313) (ty := .array .char) (C := RX8) (T := TX8) (N := 8) hx hb hts (fun _ hh => (List.mem_cons_of_mem _ (List.mem_append_right _ (List.mem_append_left _ hh)))) tyX8 tyX8_ok nmX8 hown hK hP hD hS 0 rfl rfl 2 (by decide) (hts (.fieldLink RX8 15 "TypingPool$Reader" "open" "[C") (List.mem_cons_of_mem _ (List.mem_append_left _ (List.mem_of_getElem? (i := 6) rfl)))) (fun _ h9 => h9) rfl hin rfl (tyX8_ok 2 (by decide)) rfl rfl (Nat.le_of_ble_eq_true rfl) dX8_init_17 (fun H locs hP hD hS => ?_)
  have hP : va_P (dC, dI) vwCl [(h0, .inr (8, [.ref q_311, .int 0, .ref q_313, .int 0, .int 0, .int 0, .int 0, .int 0])), (q_311, .inl (cA_312, 60, .inl (fun _ => 0))), (q_313, .inl (cA_314, 60, .inl (fun _ => 0)))] H := hP
  have hD : va_D A [(h0, .inr (8, [.ref q_311, .int 0, .ref q_313, .int 0, .int 0, .int 0, .int 0, .int 0])), (q_311, .inl (cA_312, 60, .inl (fun _ => 0))), (q_313, .inl (cA_314, 60, .inl (fun _ => 0)))] := hD
  have hP9 := hP.sub (ws' := [(h0, .inr (8, [.ref q_311, .int 0, .ref q_313, .int 0, .int 0, .int 0, .int 0, .int 0])), (q_311, .inl (cA_312, 60, .inl (fun _ => 0))), (q_313, .inl (cA_314, 60, .inl (fun _ => 0)))]) [0, 1, 2] rfl
  have hD9 := hD.sub (ws' := [(h0, .inr (8, [.ref q_311, .int 0, .ref q_313, .int 0, .int 0, .int 0, .int 0, .int 0])), (q_311, .inl (cA_312, 60, .inl (fun _ => 0))), (q_313, .inl (cA_314, 60, .inl (fun _ => 0)))]) [0, 1, 2] (by decide) rfl
  have hK9 := hK.sub (tys' := [(cA_312, .int), (cA_314, .char)]) [0, 1] rfl
  exact W.vret hx hb hr (fun t ht hW => ⟨⟨(), rfl, trivial, ⟨q_311, q_313, cA_312, cA_314, by rw [ht]; exact hP9, va_K.moved hW.alike hK9, hD9⟩⟩, hS.F ht⟩) hS.2.2 dX8_init_20
def wo_o_c_textAtFirst : List Cond := []
def wm_o_c_textAtFirst : List Cond := .code yX10_textAtFirst cX10_textAtFirst 1 (some (.object "java/lang/String")) :: (wo_o_c_textAtFirst ++ ([] : List Cond))
theorem gd_o_c_textAtFirst : ∀ w ∈ wm_o_c_textAtFirst, goodWord w = true := gd_c rfl (gd_a (by decide) gd_nil)
set_option maxRecDepth 20000 in
theorem im_o_c_textAtFirst : ∀ w ∈ wm_o_c_textAtFirst, w ∈ lw_tbl := im_c (in_r [.code yX10_textAtFirst cX10_textAtFirst 1 (some (.object "java/lang/String"))] [198] (by decide +kernel)) (in_app (in_r wo_o_c_textAtFirst [] (by decide +kernel)) im_nil)
set_option maxHeartbeats 4000000 in
set_option maxRecDepth 100000 in
theorem o_c_textAtFirst (l : Launch) (dC : Nat → ClassId) (dI : Nat → Nat → Nat) (ad av : Nat → Nat) (sz : Nat) (p0 : Int32) : Met l yX10_textAtFirst wm_o_c_textAtFirst ({ frames := 0, cells := 0, slots := 0, locals := 0 }) (pr_ ad av (dC, dI) sz [.int p0] [] []) (va_Qr (fun (_ : Unit) => True) (fun (_ : Unit) (a : Nat) (t : State) => (∃ (i : Nat), a = (ad i) ∧ i < 4 ∧ po_ (dC, dI) (va_A [] sz) [] [] t)) (va_A [] sz)) 0 0 (va_A [] sz) := by
  refine Met.ofW (cc := cX10_textAtFirst) (maxL := 1) (ret := (some (.object "java/lang/String"))) (by decide) rfl ?_
  intro p e s m args below meth c s₁ B hml hv
  obtain ⟨rfl, hsz, hP, hK, hD0, hM⟩ := hv
  have hx := B.exec
  have hb := B.bytes
  have hr := B.returns
  have hts := atoms_spec (ws := wm_o_c_textAtFirst) B.pre
  have hown : s.vm.findClass RX10 = some m.cls := findClass_of_methodNamed B.named
  have hlocks := B.notSynchronized
  subst hsz
  have hD := hD0.self (sz := s.heap.size)
  generalize hAe : va_A [] s.heap.size = A at hD hM ⊢
  have hA : ∀ q : Nat, s.heap.size ≤ q → A q := fun q h => by rw [← hAe]; exact Or.inr h
  have hS : va_S A s.heap s.heap [] := va_S.rf
  have hP : va_P (dC, dI) vwCl [] s.heap := hP
  have hl := lv_entry ([.int p0]) (n := 1) (Nat.le_of_ble_eq_true rfl)
  rw [lg_entry_eq]
  generalize (lg_sl ([.int p0]) ++ List.replicate (1 - (lg_sl ([.int p0])).length) Slot.unset).toArray = ls at hl ⊢
  have hl : lv_has ls 1 [(0, .int p0)] := hl
  refine lv_iload_n hx hb dX10_textAtFirst_0 rfl (lv_at hl 0 rfl) ?_
  rcases tb_2 p0 with t_2 | t_2 | t_2 | t_2
  · refine lq_top (v := 0) t_2 ?_
    refine lv_tableIn (tgt := 28) hx hb dX10_textAtFirst_1 (by decide) (by decide) (off := 27) (by decide) (by decide) ?_
    refine va_ldcS hx hb hown (hM.2.2.1 0 _ rfl).1 dX10_textAtFirst_28 ?_
    have hP9 := hP.sub (ws' := []) [] rfl
    have hD9 := hD.sub (ws' := []) [] (by decide) rfl
    have hK9 := hK.sub (tys' := []) [] rfl
    exact W.aret (v := .ref (ad 0)) hx hb hr (by first | exact Or.inl ⟨_, rfl⟩ | exact Or.inr ⟨_, rfl⟩) (Or.inr ⟨_, rfl⟩) (fun t ht hW => ⟨⟨(), (ad 0), rfl, trivial, ⟨0, rfl, (by decide), by rw [ht]; exact hP9, va_K.moved hW.alike hK9, hD9⟩⟩, hS.F ht⟩) hS.2.2 dX10_textAtFirst_30
  · refine lq_top (v := 1) t_2 ?_
    refine lv_tableIn (tgt := 31) hx hb dX10_textAtFirst_1 (by decide) (by decide) (off := 30) (by decide) (by decide) ?_
    refine va_ldcS hx hb hown (hM.2.2.1 1 _ rfl).1 dX10_textAtFirst_31 ?_
    have hP9 := hP.sub (ws' := []) [] rfl
    have hD9 := hD.sub (ws' := []) [] (by decide) rfl
    have hK9 := hK.sub (tys' := []) [] rfl
    exact W.aret (v := .ref (ad 1)) hx hb hr (by first | exact Or.inl ⟨_, rfl⟩ | exact Or.inr ⟨_, rfl⟩) (Or.inr ⟨_, rfl⟩) (fun t ht hW => ⟨⟨(), (ad 1), rfl, trivial, ⟨1, rfl, (by decide), by rw [ht]; exact hP9, va_K.moved hW.alike hK9, hD9⟩⟩, hS.F ht⟩) hS.2.2 dX10_textAtFirst_33
  · refine lq_top (v := 2) t_2 ?_
    refine lv_tableIn (tgt := 34) hx hb dX10_textAtFirst_1 (by decide) (by decide) (off := 33) (by decide) (by decide) ?_
    refine va_ldcS hx hb hown (hM.2.2.1 2 _ rfl).1 dX10_textAtFirst_34 ?_
    have hP9 := hP.sub (ws' := []) [] rfl
    have hD9 := hD.sub (ws' := []) [] (by decide) rfl
    have hK9 := hK.sub (tys' := []) [] rfl
    exact W.aret (v := .ref (ad 2)) hx hb hr (by first | exact Or.inl ⟨_, rfl⟩ | exact Or.inr ⟨_, rfl⟩) (Or.inr ⟨_, rfl⟩) (fun t ht hW => ⟨⟨(), (ad 2), rfl, trivial, ⟨2, rfl, (by decide), by rw [ht]; exact hP9, va_K.moved hW.alike hK9, hD9⟩⟩, hS.F ht⟩) hS.2.2 dX10_textAtFirst_36
  · refine lv_tableOut (tgt := 37) hx hb dX10_textAtFirst_1 t_2 (by decide) ?_
    refine va_ldcS hx hb hown (hM.2.2.1 3 _ rfl).1 dX10_textAtFirst_37 ?_
    have hP9 := hP.sub (ws' := []) [] rfl
    have hD9 := hD.sub (ws' := []) [] (by decide) rfl
    have hK9 := hK.sub (tys' := []) [] rfl
    exact W.aret (v := .ref (ad 3)) hx hb hr (by first | exact Or.inl ⟨_, rfl⟩ | exact Or.inr ⟨_, rfl⟩) (Or.inr ⟨_, rfl⟩) (fun t ht hW => ⟨⟨(), (ad 3), rfl, trivial, ⟨3, rfl, (by decide), by rw [ht]; exact hP9, va_K.moved hW.alike hK9, hD9⟩⟩, hS.F ht⟩) hS.2.2 dX10_textAtFirst_39
def wo_o_c_lettersOf : List Cond := []
def wm_o_c_lettersOf : List Cond := .code yX10_lettersOf cX10_lettersOf 1 (some (.object "java/lang/String")) :: (wo_o_c_lettersOf ++ ([] : List Cond))
theorem gd_o_c_lettersOf : ∀ w ∈ wm_o_c_lettersOf, goodWord w = true := gd_c rfl (gd_a (by decide) gd_nil)
set_option maxRecDepth 20000 in
theorem im_o_c_lettersOf : ∀ w ∈ wm_o_c_lettersOf, w ∈ lw_tbl := im_c (in_r [.code yX10_lettersOf cX10_lettersOf 1 (some (.object "java/lang/String"))] [250] (by decide +kernel)) (in_app (in_r wo_o_c_lettersOf [] (by decide +kernel)) im_nil)
set_option maxHeartbeats 4000000 in
set_option maxRecDepth 100000 in
theorem o_c_lettersOf (l : Launch) (dC : Nat → ClassId) (dI : Nat → Nat → Nat) (ad av : Nat → Nat) (sz : Nat) (p0 : Int32) : Met l yX10_lettersOf wm_o_c_lettersOf ({ frames := 0, cells := 0, slots := 0, locals := 0 }) (pr_ ad av (dC, dI) sz [.int p0] [] []) (va_Qr (fun (_ : Unit) => True) (fun (_ : Unit) (a : Nat) (t : State) => (∃ (i : Nat), a = (ad i) ∧ 4 ≤ i ∧ i < 8 ∧ po_ (dC, dI) (va_A [] sz) [] [] t)) (va_A [] sz)) 0 0 (va_A [] sz) := by
  refine Met.ofW (cc := cX10_lettersOf) (maxL := 1) (ret := (some (.object "java/lang/String"))) (by decide) rfl ?_
  intro p e s m args below meth c s₁ B hml hv
  obtain ⟨rfl, hsz, hP, hK, hD0, hM⟩ := hv
  have hx := B.exec
  have hb := B.bytes
  have hr := B.returns
  have hts := atoms_spec (ws := wm_o_c_lettersOf) B.pre
  have hown : s.vm.findClass RX10 = some m.cls := findClass_of_methodNamed B.named
  have hlocks := B.notSynchronized
  subst hsz
  have hD := hD0.self (sz := s.heap.size)
  generalize hAe : va_A [] s.heap.size = A at hD hM ⊢
  have hA : ∀ q : Nat, s.heap.size ≤ q → A q := fun q h => by rw [← hAe]; exact Or.inr h
  have hS : va_S A s.heap s.heap [] := va_S.rf
  have hP : va_P (dC, dI) vwCl [] s.heap := hP
  have hl := lv_entry ([.int p0]) (n := 1) (Nat.le_of_ble_eq_true rfl)
  rw [lg_entry_eq]
  generalize (lg_sl ([.int p0]) ++ List.replicate (1 - (lg_sl ([.int p0])).length) Slot.unset).toArray = ls at hl ⊢
  have hl : lv_has ls 1 [(0, .int p0)] := hl
  refine lv_iload_n hx hb dX10_lettersOf_0 rfl (lv_at hl 0 rfl) ?_
  rcases tb_2 p0 with t_1 | t_1 | t_1 | t_1
  · refine lq_top (v := 0) t_1 ?_
    refine lv_tableIn (tgt := 28) hx hb dX10_lettersOf_1 (by decide) (by decide) (off := 27) (by decide) (by decide) ?_
    refine va_ldcS hx hb hown (hM.2.2.1 4 _ rfl).1 dX10_lettersOf_28 ?_
    have hP9 := hP.sub (ws' := []) [] rfl
    have hD9 := hD.sub (ws' := []) [] (by decide) rfl
    have hK9 := hK.sub (tys' := []) [] rfl
    exact W.aret (v := .ref (ad 4)) hx hb hr (by first | exact Or.inl ⟨_, rfl⟩ | exact Or.inr ⟨_, rfl⟩) (Or.inr ⟨_, rfl⟩) (fun t ht hW => ⟨⟨(), (ad 4), rfl, trivial, ⟨4, rfl, (by decide), (by decide), by rw [ht]; exact hP9, va_K.moved hW.alike hK9, hD9⟩⟩, hS.F ht⟩) hS.2.2 dX10_lettersOf_30
  · refine lq_top (v := 1) t_1 ?_
    refine lv_tableIn (tgt := 31) hx hb dX10_lettersOf_1 (by decide) (by decide) (off := 30) (by decide) (by decide) ?_
    refine va_ldcS hx hb hown (hM.2.2.1 5 _ rfl).1 dX10_lettersOf_31 ?_
    have hP9 := hP.sub (ws' := []) [] rfl
    have hD9 := hD.sub (ws' := []) [] (by decide) rfl
    have hK9 := hK.sub (tys' := []) [] rfl
    exact W.aret (v := .ref (ad 5)) hx hb hr (by first | exact Or.inl ⟨_, rfl⟩ | exact Or.inr ⟨_, rfl⟩) (Or.inr ⟨_, rfl⟩) (fun t ht hW => ⟨⟨(), (ad 5), rfl, trivial, ⟨5, rfl, (by decide), (by decide), by rw [ht]; exact hP9, va_K.moved hW.alike hK9, hD9⟩⟩, hS.F ht⟩) hS.2.2 dX10_lettersOf_33
  · refine lq_top (v := 2) t_1 ?_
    refine lv_tableIn (tgt := 34) hx hb dX10_lettersOf_1 (by decide) (by decide) (off := 33) (by decide) (by decide) ?_
    refine va_ldcS hx hb hown (hM.2.2.1 6 _ rfl).1 dX10_lettersOf_34 ?_
    have hP9 := hP.sub (ws' := []) [] rfl
    have hD9 := hD.sub (ws' := []) [] (by decide) rfl
    have hK9 := hK.sub (tys' := []) [] rfl
    exact W.aret (v := .ref (ad 6)) hx hb hr (by first | exact Or.inl ⟨_, rfl⟩ | exact Or.inr ⟨_, rfl⟩) (Or.inr ⟨_, rfl⟩) (fun t ht hW => ⟨⟨(), (ad 6), rfl, trivial, ⟨6, rfl, (by decide), (by decide), by rw [ht]; exact hP9, va_K.moved hW.alike hK9, hD9⟩⟩, hS.F ht⟩) hS.2.2 dX10_lettersOf_36
  · refine lv_tableOut (tgt := 37) hx hb dX10_lettersOf_1 t_1 (by decide) ?_
    refine va_ldcS hx hb hown (hM.2.2.1 7 _ rfl).1 dX10_lettersOf_37 ?_
    have hP9 := hP.sub (ws' := []) [] rfl
    have hD9 := hD.sub (ws' := []) [] (by decide) rfl
    have hK9 := hK.sub (tys' := []) [] rfl
    exact W.aret (v := .ref (ad 7)) hx hb hr (by first | exact Or.inl ⟨_, rfl⟩ | exact Or.inr ⟨_, rfl⟩) (Or.inr ⟨_, rfl⟩) (fun t ht hW => ⟨⟨(), (ad 7), rfl, trivial, ⟨7, rfl, (by decide), (by decide), by rw [ht]; exact hP9, va_K.moved hW.alike hK9, hD9⟩⟩, hS.F ht⟩) hS.2.2 dX10_lettersOf_39
def wo_o_r_binding : List Cond := []
def wm_o_r_binding : List Cond := .code yX8_binding cX8_binding 1 (some .int) :: (wo_o_r_binding ++ ([] : List Cond))
theorem gd_o_r_binding : ∀ w ∈ wm_o_r_binding, goodWord w = true := gd_c rfl (gd_a (by decide) gd_nil)
set_option maxRecDepth 20000 in
theorem im_o_r_binding : ∀ w ∈ wm_o_r_binding, w ∈ lw_tbl := im_c (in_r [.code yX8_binding cX8_binding 1 (some .int)] [359] (by decide +kernel)) (in_app (in_r wo_o_r_binding [] (by decide +kernel)) im_nil)
set_option maxHeartbeats 4000000 in
set_option maxRecDepth 100000 in
theorem o_r_binding (l : Launch) (dC : Nat → ClassId) (dI : Nat → Nat → Nat) (ad av : Nat → Nat) (sz : Nat) (p0 : Int32) : Met l yX8_binding wm_o_r_binding ({ frames := 0, cells := 0, slots := 0, locals := 0 }) (pr_ ad av (dC, dI) sz [.int p0] [] []) (va_Qi (fun (r u : Int32) => u = r) (fun (r : Int32) (t : State) => (∃ (r9 : Int32), r = r9 ∧ po_ (dC, dI) (va_A [] sz) [] [] t)) (va_A [] sz)) 0 0 (va_A [] sz) := by
  refine Met.ofW (cc := cX8_binding) (maxL := 1) (ret := (some .int)) (by decide) rfl ?_
  intro p e s m args below meth c s₁ B hml hv
  obtain ⟨rfl, hsz, hP, hK, hD0, hM⟩ := hv
  have hx := B.exec
  have hb := B.bytes
  have hr := B.returns
  have hts := atoms_spec (ws := wm_o_r_binding) B.pre
  have hown : s.vm.findClass RX8 = some m.cls := findClass_of_methodNamed B.named
  have hlocks := B.notSynchronized
  subst hsz
  have hD := hD0.self (sz := s.heap.size)
  generalize hAe : va_A [] s.heap.size = A at hD hM ⊢
  have hA : ∀ q : Nat, s.heap.size ≤ q → A q := fun q h => by rw [← hAe]; exact Or.inr h
  have hS : va_S A s.heap s.heap [] := va_S.rf
  have hP : va_P (dC, dI) vwCl [] s.heap := hP
  have hl := lv_entry ([.int p0]) (n := 1) (Nat.le_of_ble_eq_true rfl)
  rw [lg_entry_eq]
  generalize (lg_sl ([.int p0]) ++ List.replicate (1 - (lg_sl ([.int p0])).length) Slot.unset).toArray = ls at hl ⊢
  have hl : lv_has ls 1 [(0, .int p0)] := hl
  refine lv_iload_n hx hb dX8_binding_0 rfl (lv_at hl 0 rfl) ?_
  by_cases w_3 : p0 = 33
  · refine lq_top (v := 33) w_3 ?_
    refine lv_lookup (tgt := 102) hx hb dX8_binding_1 (by decide) (off := 101) (by decide) (by decide) ?_
    refine lv_bipush (v := 6) hx hb dX8_binding_102 (by decide) ?_
    have hP9 := hP.sub (ws' := []) [] rfl
    have hD9 := hD.sub (ws' := []) [] (by decide) rfl
    have hK9 := hK.sub (tys' := []) [] rfl
    exact W.iret (v := 6) hx hb hr (fun t ht hW => ⟨⟨6, 6, rfl, rfl, ⟨6, rfl, by rw [ht]; exact hP9, va_K.moved hW.alike hK9, hD9⟩⟩, hS.F ht⟩) hS.2.2 dX8_binding_104
  by_cases w_4 : p0 = 38
  · refine lq_top (v := 38) w_4 ?_
    refine lv_lookup (tgt := 94) hx hb dX8_binding_1 (by decide) (off := 93) (by decide) (by decide) ?_
    refine lv_iconst (v := 2) hx hb dX8_binding_94 (by decide) ?_
    have hP9 := hP.sub (ws' := []) [] rfl
    have hD9 := hD.sub (ws' := []) [] (by decide) rfl
    have hK9 := hK.sub (tys' := []) [] rfl
    exact W.iret (v := 2) hx hb hr (fun t ht hW => ⟨⟨2, 2, rfl, rfl, ⟨2, rfl, by rw [ht]; exact hP9, va_K.moved hW.alike hK9, hD9⟩⟩, hS.F ht⟩) hS.2.2 dX8_binding_95
  by_cases w_5 : p0 = 42
  · refine lq_top (v := 42) w_5 ?_
    refine lv_lookup (tgt := 100) hx hb dX8_binding_1 (by decide) (off := 99) (by decide) (by decide) ?_
    refine lv_iconst (v := 5) hx hb dX8_binding_100 (by decide) ?_
    have hP9 := hP.sub (ws' := []) [] rfl
    have hD9 := hD.sub (ws' := []) [] (by decide) rfl
    have hK9 := hK.sub (tys' := []) [] rfl
    exact W.iret (v := 5) hx hb hr (fun t ht hW => ⟨⟨5, 5, rfl, rfl, ⟨5, rfl, by rw [ht]; exact hP9, va_K.moved hW.alike hK9, hD9⟩⟩, hS.F ht⟩) hS.2.2 dX8_binding_101
  by_cases w_6 : p0 = 43
  · refine lq_top (v := 43) w_6 ?_
    refine lv_lookup (tgt := 98) hx hb dX8_binding_1 (by decide) (off := 97) (by decide) (by decide) ?_
    refine lv_iconst (v := 4) hx hb dX8_binding_98 (by decide) ?_
    have hP9 := hP.sub (ws' := []) [] rfl
    have hD9 := hD.sub (ws' := []) [] (by decide) rfl
    have hK9 := hK.sub (tys' := []) [] rfl
    exact W.iret (v := 4) hx hb hr (fun t ht hW => ⟨⟨4, 4, rfl, rfl, ⟨4, rfl, by rw [ht]; exact hP9, va_K.moved hW.alike hK9, hD9⟩⟩, hS.F ht⟩) hS.2.2 dX8_binding_99
  by_cases w_7 : p0 = 45
  · refine lq_top (v := 45) w_7 ?_
    refine lv_lookup (tgt := 98) hx hb dX8_binding_1 (by decide) (off := 97) (by decide) (by decide) ?_
    refine lv_iconst (v := 4) hx hb dX8_binding_98 (by decide) ?_
    have hP9 := hP.sub (ws' := []) [] rfl
    have hD9 := hD.sub (ws' := []) [] (by decide) rfl
    have hK9 := hK.sub (tys' := []) [] rfl
    exact W.iret (v := 4) hx hb hr (fun t ht hW => ⟨⟨4, 4, rfl, rfl, ⟨4, rfl, by rw [ht]; exact hP9, va_K.moved hW.alike hK9, hD9⟩⟩, hS.F ht⟩) hS.2.2 dX8_binding_99
  by_cases w_8 : p0 = 60
  · refine lq_top (v := 60) w_8 ?_
    refine lv_lookup (tgt := 96) hx hb dX8_binding_1 (by decide) (off := 95) (by decide) (by decide) ?_
    refine lv_iconst (v := 3) hx hb dX8_binding_96 (by decide) ?_
    have hP9 := hP.sub (ws' := []) [] rfl
    have hD9 := hD.sub (ws' := []) [] (by decide) rfl
    have hK9 := hK.sub (tys' := []) [] rfl
    exact W.iret (v := 3) hx hb hr (fun t ht hW => ⟨⟨3, 3, rfl, rfl, ⟨3, rfl, by rw [ht]; exact hP9, va_K.moved hW.alike hK9, hD9⟩⟩, hS.F ht⟩) hS.2.2 dX8_binding_97
  by_cases w_9 : p0 = 61
  · refine lq_top (v := 61) w_9 ?_
    refine lv_lookup (tgt := 96) hx hb dX8_binding_1 (by decide) (off := 95) (by decide) (by decide) ?_
    refine lv_iconst (v := 3) hx hb dX8_binding_96 (by decide) ?_
    have hP9 := hP.sub (ws' := []) [] rfl
    have hD9 := hD.sub (ws' := []) [] (by decide) rfl
    have hK9 := hK.sub (tys' := []) [] rfl
    exact W.iret (v := 3) hx hb hr (fun t ht hW => ⟨⟨3, 3, rfl, rfl, ⟨3, rfl, by rw [ht]; exact hP9, va_K.moved hW.alike hK9, hD9⟩⟩, hS.F ht⟩) hS.2.2 dX8_binding_97
  by_cases w_10 : p0 = 62
  · refine lq_top (v := 62) w_10 ?_
    refine lv_lookup (tgt := 96) hx hb dX8_binding_1 (by decide) (off := 95) (by decide) (by decide) ?_
    refine lv_iconst (v := 3) hx hb dX8_binding_96 (by decide) ?_
    have hP9 := hP.sub (ws' := []) [] rfl
    have hD9 := hD.sub (ws' := []) [] (by decide) rfl
    have hK9 := hK.sub (tys' := []) [] rfl
    exact W.iret (v := 3) hx hb hr (fun t ht hW => ⟨⟨3, 3, rfl, rfl, ⟨3, rfl, by rw [ht]; exact hP9, va_K.moved hW.alike hK9, hD9⟩⟩, hS.F ht⟩) hS.2.2 dX8_binding_97
  by_cases w_11 : p0 = 124
  · refine lq_top (v := 124) w_11 ?_
    refine lv_lookup (tgt := 92) hx hb dX8_binding_1 (by decide) (off := 91) (by decide) (by decide) ?_
    refine lv_iconst (v := 1) hx hb dX8_binding_92 (by decide) ?_
    have hP9 := hP.sub (ws' := []) [] rfl
    have hD9 := hD.sub (ws' := []) [] (by decide) rfl
    have hK9 := hK.sub (tys' := []) [] rfl
    exact W.iret (v := 1) hx hb hr (fun t ht hW => ⟨⟨1, 1, rfl, rfl, ⟨1, rfl, by rw [ht]; exact hP9, va_K.moved hW.alike hK9, hD9⟩⟩, hS.F ht⟩) hS.2.2 dX8_binding_93
  by_cases w_12 : p0 = 126
  · refine lq_top (v := 126) w_12 ?_
    refine lv_lookup (tgt := 102) hx hb dX8_binding_1 (by decide) (off := 101) (by decide) (by decide) ?_
    refine lv_bipush (v := 6) hx hb dX8_binding_102 (by decide) ?_
    have hP9 := hP.sub (ws' := []) [] rfl
    have hD9 := hD.sub (ws' := []) [] (by decide) rfl
    have hK9 := hK.sub (tys' := []) [] rfl
    exact W.iret (v := 6) hx hb hr (fun t ht hW => ⟨⟨6, 6, rfl, rfl, ⟨6, rfl, by rw [ht]; exact hP9, va_K.moved hW.alike hK9, hD9⟩⟩, hS.F ht⟩) hS.2.2 dX8_binding_104
  refine lv_lookup (tgt := 105) hx hb dX8_binding_1 (by decide) (off := 104) ((lv_osw w_3 rfl).trans ((lv_osw w_4 rfl).trans ((lv_osw w_5 rfl).trans ((lv_osw w_6 rfl).trans ((lv_osw w_7 rfl).trans ((lv_osw w_8 rfl).trans ((lv_osw w_9 rfl).trans ((lv_osw w_10 rfl).trans ((lv_osw w_11 rfl).trans ((lv_osw w_12 rfl).trans (rfl))))))))))) (by decide) ?_
  refine lv_iconst (v := 0) hx hb dX8_binding_105 (by decide) ?_
  have hP9 := hP.sub (ws' := []) [] rfl
  have hD9 := hD.sub (ws' := []) [] (by decide) rfl
  have hK9 := hK.sub (tys' := []) [] rfl
  exact W.iret (v := 0) hx hb hr (fun t ht hW => ⟨⟨0, 0, rfl, rfl, ⟨0, rfl, by rw [ht]; exact hP9, va_K.moved hW.alike hK9, hD9⟩⟩, hS.F ht⟩) hS.2.2 dX8_binding_106
def wo_o_r_write : List Cond := [.fieldLink RX8 19 "TypingPool$Reader" "codeLength" "I", .fieldLink RX8 11 "TypingPool$Reader" "code" "[I"]
def wm_o_r_write : List Cond := .code yX8_write cX8_write 2 none :: (wo_o_r_write ++ (wsX80 ++ ([] : List Cond)))
theorem gd_o_r_write : ∀ w ∈ wm_o_r_write, goodWord w = true := gd_c rfl (gd_a (by decide) (gd_a gd_wsX80 gd_nil))
set_option maxRecDepth 20000 in
theorem im_o_r_write : ∀ w ∈ wm_o_r_write, w ∈ lw_tbl := im_c (in_r [.code yX8_write cX8_write 2 none] [336] (by decide +kernel)) (in_app (in_r wo_o_r_write [171, 170] (by decide +kernel)) (in_app im_wsX80 im_nil))
set_option maxHeartbeats 4000000 in
set_option maxRecDepth 100000 in
theorem o_r_write (l : Launch) (dC : Nat → ClassId) (dI : Nat → Nat → Nat) (ad av : Nat → Nat) (sz : Nat) (h0 : Nat) (e0 : Nat) (e2 : Nat) (cl : Nat) (ol : Nat) (k0 : ClassId) (k2 : ClassId) (f0 : Nat → Int32) (g0 : Nat → Int32) (i4 : Int32) (i5 : Int32) (i6 : Int32) (i7 : Int32) (p0 : Int32) (hcl : cl ≤ 60) (hol : ol ≤ 60) : Met l yX8_write wm_o_r_write ({ frames := 0, cells := 0, slots := 0, locals := 0 }) (pr_ ad av (dC, dI) sz [.ref h0, .int p0] [(h0, .inr (8, [.ref e0, .int (nI cl), .ref e2, .int (nI ol), .int i4, .int i5, .int i6, .int i7])), (e0, .inl (k0, 60, .inl f0)), (e2, .inl (k2, 60, .inl g0))] [(k0, .int), (k2, .char)]) (va_Qv (fun (_ : Unit) => True) (fun (_ : Unit) (t : State) => (∃ (cl1 : Nat), ∃ (f1 : Nat → Int32), cl1 ≤ 60 ∧ po_ (dC, dI) (va_A [(h0, .inr (8, [.ref e0, .int (nI cl), .ref e2, .int (nI ol), .int i4, .int i5, .int i6, .int i7])), (e0, .inl (k0, 60, .inl f0)), (e2, .inl (k2, 60, .inl g0))] sz) [(h0, .inr (8, [.ref e0, .int (nI cl1), .ref e2, .int (nI ol), .int i4, .int i5, .int i6, .int i7])), (e0, .inl (k0, 60, .inl f1)), (e2, .inl (k2, 60, .inl g0))] [(k0, .int), (k2, .char)] t)) (va_A [(h0, .inr (8, [.ref e0, .int (nI cl), .ref e2, .int (nI ol), .int i4, .int i5, .int i6, .int i7])), (e0, .inl (k0, 60, .inl f0)), (e2, .inl (k2, 60, .inl g0))] sz)) 0 0 (va_A [(h0, .inr (8, [.ref e0, .int (nI cl), .ref e2, .int (nI ol), .int i4, .int i5, .int i6, .int i7])), (e0, .inl (k0, 60, .inl f0)), (e2, .inl (k2, 60, .inl g0))] sz) := by
  refine Met.ofW (cc := cX8_write) (maxL := 2) (ret := none) (by decide) rfl ?_
  intro p e s m args below meth c s₁ B hml hv
  obtain ⟨rfl, hsz, hP, hK, hD0, hM⟩ := hv
  have hx := B.exec
  have hb := B.bytes
  have hr := B.returns
  have hts := atoms_spec (ws := wm_o_r_write) B.pre
  have hown : s.vm.findClass RX8 = some m.cls := findClass_of_methodNamed B.named
  have hlocks := B.notSynchronized
  subst hsz
  have hD := hD0.self (sz := s.heap.size)
  generalize hAe : va_A [(h0, .inr (8, [.ref e0, .int (nI cl), .ref e2, .int (nI ol), .int i4, .int i5, .int i6, .int i7])), (e0, .inl (k0, 60, .inl f0)), (e2, .inl (k2, 60, .inl g0))] s.heap.size = A at hD hM ⊢
  have hA : ∀ q : Nat, s.heap.size ≤ q → A q := fun q h => by rw [← hAe]; exact Or.inr h
  have hS : va_S A s.heap s.heap [] := va_S.rf
  have hP : va_P (dC, dI) vwCl [(h0, .inr (8, [.ref e0, .int (nI cl), .ref e2, .int (nI ol), .int i4, .int i5, .int i6, .int i7])), (e0, .inl (k0, 60, .inl f0)), (e2, .inl (k2, 60, .inl g0))] s.heap := hP
  have hl := lv_entry ([.ref h0, .int p0]) (n := 2) (Nat.le_of_ble_eq_true rfl)
  rw [lg_entry_eq]
  generalize (lg_sl ([.ref h0, .int p0]) ++ List.replicate (2 - (lg_sl ([.ref h0, .int p0])).length) Slot.unset).toArray = ls at hl ⊢
  have hl : lv_has ls 2 [(0, .ref h0), (1, .int p0)] := hl
  refine lv_aload_n hx hb dX8_write_0 rfl (lv_at hl 0 rfl) ?_
  refine va_get (D := (dC, dI)) (ci := 8) (v := .int (nI cl)) (C := RX8) (T := TX8) (N := 8) hx hb hts (fun _ hh => (List.mem_cons_of_mem _ (List.mem_append_right _ (List.mem_append_left _ hh)))) hown hK hP 0 rfl rfl 1 (by decide) (hts (.fieldLink RX8 19 "TypingPool$Reader" "codeLength" "I") (List.mem_cons_of_mem _ (List.mem_append_left _ (List.mem_of_getElem? (i := 0) rfl)))) (fun _ h9 => h9) rfl dX8_write_1 ?_
  refine lv_aload_n hx hb dX8_write_4 rfl (lv_at hl 0 rfl) ?_
  refine va_get (D := (dC, dI)) (ci := 8) (v := .ref e0) (C := RX8) (T := TX8) (N := 8) hx hb hts (fun _ hh => (List.mem_cons_of_mem _ (List.mem_append_right _ (List.mem_append_left _ hh)))) hown hK hP 0 rfl rfl 0 (by decide) (hts (.fieldLink RX8 11 "TypingPool$Reader" "code" "[I") (List.mem_cons_of_mem _ (List.mem_append_left _ (List.mem_of_getElem? (i := 1) rfl)))) (fun _ h9 => h9) rfl dX8_write_5 ?_
  refine va_alen (v := 60) hx hb hK hP 1 0 rfl rfl rfl dX8_write_8 ?_
  refine lv_icmp_ge (tgt := 32) hx hb dX8_write_9 (by decide) (fun c_13 => ?_) (fun c_13 => ?_)
  · have hn_c_13 := q_le 60 cl c_13 rfl rfl (by omega) (by omega)
    have hP9 := hP.sub (ws' := [(h0, .inr (8, [.ref e0, .int (nI cl), .ref e2, .int (nI ol), .int i4, .int i5, .int i6, .int i7])), (e0, .inl (k0, 60, .inl f0)), (e2, .inl (k2, 60, .inl g0))]) [0, 1, 2] rfl
    have hD9 := hD.sub (ws' := [(h0, .inr (8, [.ref e0, .int (nI cl), .ref e2, .int (nI ol), .int i4, .int i5, .int i6, .int i7])), (e0, .inl (k0, 60, .inl f0)), (e2, .inl (k2, 60, .inl g0))]) [0, 1, 2] (by decide) rfl
    have hK9 := hK.sub (tys' := [(k0, .int), (k2, .char)]) [0, 1] rfl
    exact W.vret hx hb hr (fun t ht hW => ⟨⟨(), rfl, trivial, ⟨cl, f0, (by omega), by rw [ht]; exact hP9, va_K.moved hW.alike hK9, hD9⟩⟩, hS.F ht⟩) hS.2.2 dX8_write_32
  · have hn_c_13 := q_nle 60 cl c_13 rfl rfl (by omega) (by omega)
    refine lv_aload_n hx hb dX8_write_12 rfl (lv_at hl 0 rfl) ?_
    refine va_get (D := (dC, dI)) (ci := 8) (v := .ref e0) (C := RX8) (T := TX8) (N := 8) hx hb hts (fun _ hh => (List.mem_cons_of_mem _ (List.mem_append_right _ (List.mem_append_left _ hh)))) hown hK hP 0 rfl rfl 0 (by decide) (hts (.fieldLink RX8 11 "TypingPool$Reader" "code" "[I") (List.mem_cons_of_mem _ (List.mem_append_left _ (List.mem_of_getElem? (i := 1) rfl)))) (fun _ h9 => h9) rfl dX8_write_13 ?_
    refine lv_aload_n hx hb dX8_write_16 rfl (lv_at hl 0 rfl) ?_
    refine va_get (D := (dC, dI)) (ci := 8) (v := .int (nI cl)) (C := RX8) (T := TX8) (N := 8) hx hb hts (fun _ hh => (List.mem_cons_of_mem _ (List.mem_append_right _ (List.mem_append_left _ hh)))) hown hK hP 0 rfl rfl 1 (by decide) (hts (.fieldLink RX8 19 "TypingPool$Reader" "codeLength" "I") (List.mem_cons_of_mem _ (List.mem_append_left _ (List.mem_of_getElem? (i := 0) rfl)))) (fun _ h9 => h9) rfl dX8_write_17 ?_
    refine lv_iload_n hx hb dX8_write_20 rfl (lv_at hl 1 rfl) ?_
    refine va_iast hx hb hK hP hD hS 1 0 rfl rfl (vp_in_nI (n := cl) (by omega) (by omega)) dX8_write_21 (fun H locs hP hD hS => ?_)
    obtain ⟨f_14, ef_14⟩ : ∃ y : Nat → Int32, y = upd f0 (nI cl).toNatClampNeg p0 := ⟨_, rfl⟩
    have hP : va_P (dC, dI) vwCl [(h0, .inr (8, [.ref e0, .int (nI cl), .ref e2, .int (nI ol), .int i4, .int i5, .int i6, .int i7])), (e0, .inl (k0, 60, .inl f_14)), (e2, .inl (k2, 60, .inl g0))] H := by rw [ef_14]; exact hP
    have hD : va_D A [(h0, .inr (8, [.ref e0, .int (nI cl), .ref e2, .int (nI ol), .int i4, .int i5, .int i6, .int i7])), (e0, .inl (k0, 60, .inl f_14)), (e2, .inl (k2, 60, .inl g0))] := by rw [ef_14]; exact hD
    refine lv_aload_n hx hb dX8_write_22 rfl (lv_at hl 0 rfl) ?_
    refine lv_dup hx hb dX8_write_23 rfl ?_
    refine va_get (D := (dC, dI)) (ci := 8) (v := .int (nI cl)) (C := RX8) (T := TX8) (N := 8) hx hb hts (fun _ hh => (List.mem_cons_of_mem _ (List.mem_append_right _ (List.mem_append_left _ hh)))) hown hK hP 0 rfl rfl 1 (by decide) (hts (.fieldLink RX8 19 "TypingPool$Reader" "codeLength" "I") (List.mem_cons_of_mem _ (List.mem_append_left _ (List.mem_of_getElem? (i := 0) rfl)))) (fun _ h9 => h9) rfl dX8_write_24 ?_
    refine lv_iconst (v := 1) hx hb dX8_write_27 (by decide) ?_
    refine lv_iadd hx hb dX8_write_28 ?_
    refine lq_top (v := nI (cl + 1)) (nI_add cl 1) ?_
    refine va_put (D := (dC, dI)) (ci := 8) (v := .int (nI (cl + 1))) (ty := .int) (C := RX8) (T := TX8) (N := 8) hx hb hts (fun _ hh => (List.mem_cons_of_mem _ (List.mem_append_right _ (List.mem_append_left _ hh)))) tyX8 tyX8_ok nmX8 hown hK hP hD hS 0 rfl rfl 1 (by decide) (hts (.fieldLink RX8 19 "TypingPool$Reader" "codeLength" "I") (List.mem_cons_of_mem _ (List.mem_append_left _ (List.mem_of_getElem? (i := 0) rfl)))) (fun _ h9 => h9) rfl (tyX8_ok 1 (by decide)) rfl rfl (Nat.le_of_ble_eq_true rfl) dX8_write_29 (fun H locs hP hD hS => ?_)
    have hP : va_P (dC, dI) vwCl [(h0, .inr (8, [.ref e0, .int (nI (cl + 1)), .ref e2, .int (nI ol), .int i4, .int i5, .int i6, .int i7])), (e0, .inl (k0, 60, .inl f_14)), (e2, .inl (k2, 60, .inl g0))] H := hP
    have hD : va_D A [(h0, .inr (8, [.ref e0, .int (nI (cl + 1)), .ref e2, .int (nI ol), .int i4, .int i5, .int i6, .int i7])), (e0, .inl (k0, 60, .inl f_14)), (e2, .inl (k2, 60, .inl g0))] := hD
    have hP9 := hP.sub (ws' := [(h0, .inr (8, [.ref e0, .int (nI (cl + 1)), .ref e2, .int (nI ol), .int i4, .int i5, .int i6, .int i7])), (e0, .inl (k0, 60, .inl f_14)), (e2, .inl (k2, 60, .inl g0))]) [0, 1, 2] rfl
    have hD9 := hD.sub (ws' := [(h0, .inr (8, [.ref e0, .int (nI (cl + 1)), .ref e2, .int (nI ol), .int i4, .int i5, .int i6, .int i7])), (e0, .inl (k0, 60, .inl f_14)), (e2, .inl (k2, 60, .inl g0))]) [0, 1, 2] (by decide) rfl
    have hK9 := hK.sub (tys' := [(k0, .int), (k2, .char)]) [0, 1] rfl
    exact W.vret hx hb hr (fun t ht hW => ⟨⟨(), rfl, trivial, ⟨cl + 1, f_14, (by omega), by rw [ht]; exact hP9, va_K.moved hW.alike hK9, hD9⟩⟩, hS.F ht⟩) hS.2.2 dX8_write_32
def wo_o_r_close : List Cond := [.fieldLink RX8 23 "TypingPool$Reader" "openLength" "I", .fieldLink RX8 15 "TypingPool$Reader" "open" "[C", .methodLink RX8 86 yX8_binding, .static yX8_binding, .initialized RX8, .methodLink RX8 72 yX8_write, .instanceMethod yX8_write, .selects RX8 yX8_write yX8_write]
def wm_o_r_close : List Cond := .code yX8_close cX8_close 2 none :: (wo_o_r_close ++ (wsX80 ++ (wm_o_r_binding ++ (wm_o_r_write ++ ([] : List Cond)))))
theorem gd_o_r_close : ∀ w ∈ wm_o_r_close, goodWord w = true := gd_c rfl (gd_a (by decide) (gd_a gd_wsX80 (gd_a gd_o_r_binding (gd_a gd_o_r_write gd_nil))))
set_option maxRecDepth 20000 in
theorem im_o_r_close : ∀ w ∈ wm_o_r_close, w ∈ lw_tbl := im_c (in_r [.code yX8_close cX8_close 2 none] [356] (by decide +kernel)) (in_app (in_r wo_o_r_close [173, 172, 357, 358, 73, 333, 335, 1] (by decide +kernel)) (in_app im_wsX80 (in_app im_o_r_binding (in_app im_o_r_write im_nil))))
set_option maxHeartbeats 4000000 in
set_option maxRecDepth 100000 in
theorem o_r_close (l : Launch) (dC : Nat → ClassId) (dI : Nat → Nat → Nat) (ad av : Nat → Nat) (sz : Nat) (h0 : Nat) (e0 : Nat) (e2 : Nat) (cl : Nat) (ol : Nat) (k0 : ClassId) (k2 : ClassId) (f0 : Nat → Int32) (g0 : Nat → Int32) (i4 : Int32) (i5 : Int32) (i6 : Int32) (i7 : Int32) (p0 : Int32) (hcl : cl ≤ 60) (hol : ol ≤ 60) : Met l yX8_close wm_o_r_close ({ frames := 2, cells := 0, slots := 0, locals := 60 }) (pr_ ad av (dC, dI) sz [.ref h0, .int p0] [(h0, .inr (8, [.ref e0, .int (nI cl), .ref e2, .int (nI ol), .int i4, .int i5, .int i6, .int i7])), (e0, .inl (k0, 60, .inl f0)), (e2, .inl (k2, 60, .inl g0))] [(k0, .int), (k2, .char)]) (va_Qv (fun (_ : Unit) => True) (fun (_ : Unit) (t : State) => (∃ (cl1 : Nat), ∃ (ol1 : Nat), ∃ (j4 : Int32), ∃ (j5 : Int32), ∃ (j6 : Int32), ∃ (j7 : Int32), ∃ (f1 : Nat → Int32), ∃ (g1 : Nat → Int32), cl1 ≤ 60 ∧ ol1 ≤ 60 ∧ po_ (dC, dI) (va_A [(h0, .inr (8, [.ref e0, .int (nI cl), .ref e2, .int (nI ol), .int i4, .int i5, .int i6, .int i7])), (e0, .inl (k0, 60, .inl f0)), (e2, .inl (k2, 60, .inl g0))] sz) [(h0, .inr (8, [.ref e0, .int (nI cl1), .ref e2, .int (nI ol1), .int j4, .int j5, .int j6, .int j7])), (e0, .inl (k0, 60, .inl f1)), (e2, .inl (k2, 60, .inl g1))] [(k0, .int), (k2, .char)] t)) (va_A [(h0, .inr (8, [.ref e0, .int (nI cl), .ref e2, .int (nI ol), .int i4, .int i5, .int i6, .int i7])), (e0, .inl (k0, 60, .inl f0)), (e2, .inl (k2, 60, .inl g0))] sz)) 0 0 (va_A [(h0, .inr (8, [.ref e0, .int (nI cl), .ref e2, .int (nI ol), .int i4, .int i5, .int i6, .int i7])), (e0, .inl (k0, 60, .inl f0)), (e2, .inl (k2, 60, .inl g0))] sz) := by
  refine Met.ofW (cc := cX8_close) (maxL := 2) (ret := none) (by decide) rfl ?_
  intro p e s m args below meth c s₁ B hml hv
  obtain ⟨rfl, hsz, hP, hK, hD0, hM⟩ := hv
  have hx := B.exec
  have hb := B.bytes
  have hr := B.returns
  have hts := atoms_spec (ws := wm_o_r_close) B.pre
  have hown : s.vm.findClass RX8 = some m.cls := findClass_of_methodNamed B.named
  have hlocks := B.notSynchronized
  subst hsz
  have hD := hD0.self (sz := s.heap.size)
  generalize hAe : va_A [(h0, .inr (8, [.ref e0, .int (nI cl), .ref e2, .int (nI ol), .int i4, .int i5, .int i6, .int i7])), (e0, .inl (k0, 60, .inl f0)), (e2, .inl (k2, 60, .inl g0))] s.heap.size = A at hD hM ⊢
  have hA : ∀ q : Nat, s.heap.size ≤ q → A q := fun q h => by rw [← hAe]; exact Or.inr h
  have hS : va_S A s.heap s.heap [] := va_S.rf
  have hP : va_P (dC, dI) vwCl [(h0, .inr (8, [.ref e0, .int (nI cl), .ref e2, .int (nI ol), .int i4, .int i5, .int i6, .int i7])), (e0, .inl (k0, 60, .inl f0)), (e2, .inl (k2, 60, .inl g0))] s.heap := hP
  have hl := lv_entry ([.ref h0, .int p0]) (n := 2) (Nat.le_of_ble_eq_true rfl)
  rw [lg_entry_eq]
  generalize (lg_sl ([.ref h0, .int p0]) ++ List.replicate (2 - (lg_sl ([.ref h0, .int p0])).length) Slot.unset).toArray = ls at hl ⊢
  have hl : lv_has ls 2 [(0, .ref h0), (1, .int p0)] := hl
  have loop_0 : ∀ (n : Nat) (cl : Nat) (ol : Nat) (i4 : Int32) (i5 : Int32) (i6 : Int32) (i7 : Int32) (f0 : Nat → Int32) (g0 : Nat → Int32) (H : Heap) (locs : List Loc) (ls : Array Slot), ol < n → cl ≤ 60 → ol ≤ 60 → va_K (dC, dI) vwCl [(k0, .int), (k2, .char)] s → va_P (dC, dI) vwCl [(h0, .inr (8, [.ref e0, .int (nI cl), .ref e2, .int (nI ol), .int i4, .int i5, .int i6, .int i7])), (e0, .inl (k0, 60, .inl f0)), (e2, .inl (k2, 60, .inl g0))] H → va_D A [(h0, .inr (8, [.ref e0, .int (nI cl), .ref e2, .int (nI ol), .int i4, .int i5, .int i6, .int i7])), (e0, .inl (k0, 60, .inl f0)), (e2, .inl (k2, 60, .inl g0))] → va_S A s.heap H locs → lv_has ls 2 [(0, .ref h0), (1, .int p0)] → W p l e (headSpec wm_o_r_close ({ frames := 2, cells := 0, slots := 0, locals := 60 })).room s m ([.ref h0, .int p0] : List Value).toArray below meth c H locs 0 0 (MQ below (va_Qv (fun (_ : Unit) => True) (fun (_ : Unit) (t : State) => (∃ (cl1 : Nat), ∃ (ol1 : Nat), ∃ (j4 : Int32), ∃ (j5 : Int32), ∃ (j6 : Int32), ∃ (j7 : Int32), ∃ (f1 : Nat → Int32), ∃ (g1 : Nat → Int32), cl1 ≤ 60 ∧ ol1 ≤ 60 ∧ po_ (dC, dI) A [(h0, .inr (8, [.ref e0, .int (nI cl1), .ref e2, .int (nI ol1), .int j4, .int j5, .int j6, .int j7])), (e0, .inl (k0, 60, .inl f1)), (e2, .inl (k2, 60, .inl g1))] [(k0, .int), (k2, .char)] t)) A) ([.ref h0, .int p0] : List Value).toArray s 0 0 A) (F0 m 0 ls []) := by
    intro n
    induction n with
    | zero => intro cl ol i4 i5 i6 i7 f0 g0 H locs ls hlt; exact absurd hlt (Nat.not_lt_zero _)
    | succ n ih_0 =>
      intro cl ol i4 i5 i6 i7 f0 g0 H locs ls hlt hcl hol hK hP hD hS hl
      refine lv_aload_n hx hb dX8_close_0 rfl (lv_at hl 0 rfl) ?_
      refine va_get (D := (dC, dI)) (ci := 8) (v := .int (nI ol)) (C := RX8) (T := TX8) (N := 8) hx hb hts (fun _ hh => (List.mem_cons_of_mem _ (List.mem_append_right _ (List.mem_append_left _ hh)))) hown hK hP 0 rfl rfl 3 (by decide) (hts (.fieldLink RX8 23 "TypingPool$Reader" "openLength" "I") (List.mem_cons_of_mem _ (List.mem_append_left _ (List.mem_of_getElem? (i := 0) rfl)))) (fun _ h9 => h9) rfl dX8_close_1 ?_
      refine lv_if_le (tgt := 55) hx hb dX8_close_4 (by decide) (fun c_26 => ?_) (fun c_26 => ?_)
      · have hn_c_26 := q_le ol 0 c_26 rfl rfl (by omega) (by omega)
        have hP9 := hP.sub (ws' := [(h0, .inr (8, [.ref e0, .int (nI cl), .ref e2, .int (nI ol), .int i4, .int i5, .int i6, .int i7])), (e0, .inl (k0, 60, .inl f0)), (e2, .inl (k2, 60, .inl g0))]) [0, 1, 2] rfl
        have hD9 := hD.sub (ws' := [(h0, .inr (8, [.ref e0, .int (nI cl), .ref e2, .int (nI ol), .int i4, .int i5, .int i6, .int i7])), (e0, .inl (k0, 60, .inl f0)), (e2, .inl (k2, 60, .inl g0))]) [0, 1, 2] (by decide) rfl
        have hK9 := hK.sub (tys' := [(k0, .int), (k2, .char)]) [0, 1] rfl
        exact W.vret hx hb hr (fun t ht hW => ⟨⟨(), rfl, trivial, ⟨cl, ol, i4, i5, i6, i7, f0, g0, hcl, hol, by rw [ht]; exact hP9, va_K.moved hW.alike hK9, hD9⟩⟩, hS.F ht⟩) hS.2.2 dX8_close_55
      · have hn_c_26 := q_nle ol 0 c_26 rfl rfl (by omega) (by omega)
        refine lv_aload_n hx hb dX8_close_7 rfl (lv_at hl 0 rfl) ?_
        refine va_get (D := (dC, dI)) (ci := 8) (v := .ref e2) (C := RX8) (T := TX8) (N := 8) hx hb hts (fun _ hh => (List.mem_cons_of_mem _ (List.mem_append_right _ (List.mem_append_left _ hh)))) hown hK hP 0 rfl rfl 2 (by decide) (hts (.fieldLink RX8 15 "TypingPool$Reader" "open" "[C") (List.mem_cons_of_mem _ (List.mem_append_left _ (List.mem_of_getElem? (i := 1) rfl)))) (fun _ h9 => h9) rfl dX8_close_8 ?_
        refine lv_aload_n hx hb dX8_close_11 rfl (lv_at hl 0 rfl) ?_
        refine va_get (D := (dC, dI)) (ci := 8) (v := .int (nI ol)) (C := RX8) (T := TX8) (N := 8) hx hb hts (fun _ hh => (List.mem_cons_of_mem _ (List.mem_append_right _ (List.mem_append_left _ hh)))) hown hK hP 0 rfl rfl 3 (by decide) (hts (.fieldLink RX8 23 "TypingPool$Reader" "openLength" "I") (List.mem_cons_of_mem _ (List.mem_append_left _ (List.mem_of_getElem? (i := 0) rfl)))) (fun _ h9 => h9) rfl dX8_close_12 ?_
        refine lv_iconst (v := 1) hx hb dX8_close_15 (by decide) ?_
        refine lv_isub hx hb dX8_close_16 ?_
        refine lq_top (v := nI (ol - 1)) (pk_sub (a := ol) (b := 1) (by omega)) ?_
        refine va_cald hx hb hK hP 2 1 rfl rfl (vp_in_nI (n := ol - 1) (by omega) (by omega)) dX8_close_17 ?_
        refine lv_topi (fun x_27 ex_27 => ?_)
        have hPc := hP.sub (ws' := []) [] rfl
        have hDc := hD.sub (ws' := []) [] (by decide) rfl
        have hKc := hK.sub (tys' := []) [] rfl
        have hFc := va_free (wc := []) hD hS hA [] rfl
        refine va_calli (va_runS (As := [.int x_27]) (rest := []) ⟨hx, hb, hml, hown, hts⟩ (o_r_binding l dC dI ad av H.size x_27 ) (va_cwS 1 hts (gi_3 (List.mem_cons_of_mem _ (List.mem_append_left _ (List.mem_of_getElem? (i := 2) rfl))) (List.mem_cons_of_mem _ (List.mem_append_left _ (List.mem_of_getElem? (i := 3) rfl))) (List.mem_cons_of_mem _ (List.mem_append_left _ (List.mem_of_getElem? (i := 4) rfl))) (fun _ hh => (List.mem_cons_of_mem _ (List.mem_append_right _ (List.mem_append_right _ (List.mem_append_left _ hh))))) gd_o_r_binding) rfl rfl rfl (by decide +kernel) ⟨Nat.le_of_ble_eq_true rfl, Nat.le_of_ble_eq_true rfl⟩) ⟨pr_blind, pr_use hPc hKc hDc hFc hS hM⟩ rfl rfl hl.1 rfl (lv_room (Nat.le_of_ble_eq_true rfl)) dX8_close_18 ⟨Nat.le_of_ble_eq_true rfl, Nat.le_of_ble_eq_true rfl⟩) hS (fun q _ h => hFc q h) hFc (fun r_28 u t H locs ht hvm hw hB hz1 hk1 hS => ?_)
        refine W.widen (k := 0) (n := 0) (Nat.le_of_ble_eq_true rfl) (Nat.le_of_ble_eq_true rfl) ?_
        subst hw
        obtain ⟨r_29, hre_30, hP1, hK1, hD1⟩ := hB
        refine lq_top (v := r_29) hre_30 ?_
        rw [ht] at hP1
        have hK1 := va_K.moved hvm.symm hK1
        obtain ⟨hP, hD⟩ := va_join (wr := [(h0, .inr (8, [.ref e0, .int (nI cl), .ref e2, .int (nI ol), .int i4, .int i5, .int i6, .int i7])), (e0, .inl (k0, 60, .inl f0)), (e2, .inl (k2, 60, .inl g0))]) (w1 := []) hP hD [] [0, 1, 2] rfl rfl (by decide) (by decide) hk1 hFc hP1 hD1
        have hK := (hK.sub (tys' := [(k0, .int), (k2, .char)]) [0, 1] rfl).app hK1
        have hP : va_P (dC, dI) vwCl [(h0, .inr (8, [.ref e0, .int (nI cl), .ref e2, .int (nI ol), .int i4, .int i5, .int i6, .int i7])), (e0, .inl (k0, 60, .inl f0)), (e2, .inl (k2, 60, .inl g0))] H := hP
        have hD : va_D A [(h0, .inr (8, [.ref e0, .int (nI cl), .ref e2, .int (nI ol), .int i4, .int i5, .int i6, .int i7])), (e0, .inl (k0, 60, .inl f0)), (e2, .inl (k2, 60, .inl g0))] := hD
        have hK : va_K (dC, dI) vwCl [(k0, .int), (k2, .char)] s := hK
        refine lv_iload_n hx hb dX8_close_21 rfl (lv_at hl 1 rfl) ?_
        refine lv_icmp_lt (tgt := 55) hx hb dX8_close_22 (by decide) (fun c_31 => ?_) (fun c_31 => ?_)
        · have hP9 := hP.sub (ws' := [(h0, .inr (8, [.ref e0, .int (nI cl), .ref e2, .int (nI ol), .int i4, .int i5, .int i6, .int i7])), (e0, .inl (k0, 60, .inl f0)), (e2, .inl (k2, 60, .inl g0))]) [0, 1, 2] rfl
          have hD9 := hD.sub (ws' := [(h0, .inr (8, [.ref e0, .int (nI cl), .ref e2, .int (nI ol), .int i4, .int i5, .int i6, .int i7])), (e0, .inl (k0, 60, .inl f0)), (e2, .inl (k2, 60, .inl g0))]) [0, 1, 2] (by decide) rfl
          have hK9 := hK.sub (tys' := [(k0, .int), (k2, .char)]) [0, 1] rfl
          exact W.vret hx hb hr (fun t ht hW => ⟨⟨(), rfl, trivial, ⟨cl, ol, i4, i5, i6, i7, f0, g0, hcl, hol, by rw [ht]; exact hP9, va_K.moved hW.alike hK9, hD9⟩⟩, hS.F ht⟩) hS.2.2 dX8_close_55
        · refine lv_aload_n hx hb dX8_close_25 rfl (lv_at hl 0 rfl) ?_
          refine lv_dup hx hb dX8_close_26 rfl ?_
          refine va_get (D := (dC, dI)) (ci := 8) (v := .int (nI ol)) (C := RX8) (T := TX8) (N := 8) hx hb hts (fun _ hh => (List.mem_cons_of_mem _ (List.mem_append_right _ (List.mem_append_left _ hh)))) hown hK hP 0 rfl rfl 3 (by decide) (hts (.fieldLink RX8 23 "TypingPool$Reader" "openLength" "I") (List.mem_cons_of_mem _ (List.mem_append_left _ (List.mem_of_getElem? (i := 0) rfl)))) (fun _ h9 => h9) rfl dX8_close_27 ?_
          refine lv_iconst (v := 1) hx hb dX8_close_30 (by decide) ?_
          refine lv_isub hx hb dX8_close_31 ?_
          refine lq_top (v := nI (ol - 1)) (pk_sub (a := ol) (b := 1) (by omega)) ?_
          refine va_put (D := (dC, dI)) (ci := 8) (v := .int (nI (ol - 1))) (ty := .int) (C := RX8) (T := TX8) (N := 8) hx hb hts (fun _ hh => (List.mem_cons_of_mem _ (List.mem_append_right _ (List.mem_append_left _ hh)))) tyX8 tyX8_ok nmX8 hown hK hP hD hS 0 rfl rfl 3 (by decide) (hts (.fieldLink RX8 23 "TypingPool$Reader" "openLength" "I") (List.mem_cons_of_mem _ (List.mem_append_left _ (List.mem_of_getElem? (i := 0) rfl)))) (fun _ h9 => h9) rfl (tyX8_ok 3 (by decide)) rfl rfl (Nat.le_of_ble_eq_true rfl) dX8_close_32 (fun H locs hP hD hS => ?_)
          have hP : va_P (dC, dI) vwCl [(h0, .inr (8, [.ref e0, .int (nI cl), .ref e2, .int (nI (ol - 1)), .int i4, .int i5, .int i6, .int i7])), (e0, .inl (k0, 60, .inl f0)), (e2, .inl (k2, 60, .inl g0))] H := hP
          have hD : va_D A [(h0, .inr (8, [.ref e0, .int (nI cl), .ref e2, .int (nI (ol - 1)), .int i4, .int i5, .int i6, .int i7])), (e0, .inl (k0, 60, .inl f0)), (e2, .inl (k2, 60, .inl g0))] := hD
          refine lv_aload_n hx hb dX8_close_35 rfl (lv_at hl 0 rfl) ?_
          refine lv_sipush (v := 20000) hx hb dX8_close_36 (by decide) ?_
          refine lv_aload_n hx hb dX8_close_39 rfl (lv_at hl 0 rfl) ?_
          refine va_get (D := (dC, dI)) (ci := 8) (v := .ref e2) (C := RX8) (T := TX8) (N := 8) hx hb hts (fun _ hh => (List.mem_cons_of_mem _ (List.mem_append_right _ (List.mem_append_left _ hh)))) hown hK hP 0 rfl rfl 2 (by decide) (hts (.fieldLink RX8 15 "TypingPool$Reader" "open" "[C") (List.mem_cons_of_mem _ (List.mem_append_left _ (List.mem_of_getElem? (i := 1) rfl)))) (fun _ h9 => h9) rfl dX8_close_40 ?_
          refine lv_aload_n hx hb dX8_close_43 rfl (lv_at hl 0 rfl) ?_
          refine va_get (D := (dC, dI)) (ci := 8) (v := .int (nI (ol - 1))) (C := RX8) (T := TX8) (N := 8) hx hb hts (fun _ hh => (List.mem_cons_of_mem _ (List.mem_append_right _ (List.mem_append_left _ hh)))) hown hK hP 0 rfl rfl 3 (by decide) (hts (.fieldLink RX8 23 "TypingPool$Reader" "openLength" "I") (List.mem_cons_of_mem _ (List.mem_append_left _ (List.mem_of_getElem? (i := 0) rfl)))) (fun _ h9 => h9) rfl dX8_close_44 ?_
          refine va_cald hx hb hK hP 2 1 rfl rfl (vp_in_nI (n := ol - 1) (by omega) (by omega)) dX8_close_47 ?_
          refine lv_topi (fun x_32 ex_32 => ?_)
          refine lv_iadd hx hb dX8_close_48 ?_
          refine lv_topi (fun x_33 ex_33 => ?_)
          have hPc := hP.sub (ws' := [(h0, .inr (8, [.ref e0, .int (nI cl), .ref e2, .int (nI (ol - 1)), .int i4, .int i5, .int i6, .int i7])), (e0, .inl (k0, 60, .inl f0)), (e2, .inl (k2, 60, .inl g0))]) [0, 1, 2] rfl
          have hDc := hD.sub (ws' := [(h0, .inr (8, [.ref e0, .int (nI cl), .ref e2, .int (nI (ol - 1)), .int i4, .int i5, .int i6, .int i7])), (e0, .inl (k0, 60, .inl f0)), (e2, .inl (k2, 60, .inl g0))]) [0, 1, 2] (by decide) rfl
          have hKc := hK.sub (tys' := [(k0, .int), (k2, .char)]) [0, 1] rfl
          have hFc := va_free (wc := [(h0, .inr (8, [.ref e0, .int (nI cl), .ref e2, .int (nI (ol - 1)), .int i4, .int i5, .int i6, .int i7])), (e0, .inl (k0, 60, .inl f0)), (e2, .inl (k2, 60, .inl g0))]) hD hS hA [0, 1, 2] rfl
          refine va_callv (va_runV (As := [.int x_33]) (rest := []) ⟨hx, hb, hml, hown, hts⟩ (o_r_write l dC dI ad av H.size h0 e0 e2 cl (ol - 1) k0 k2 f0 g0 i4 i5 i6 i7 x_33 hcl (by omega)) (cwV 1 hts (gi_4 (List.mem_cons_of_mem _ (List.mem_append_left _ (List.mem_of_getElem? (i := 5) rfl))) (List.mem_cons_of_mem _ (List.mem_append_left _ (List.mem_of_getElem? (i := 6) rfl))) (List.mem_cons_of_mem _ (List.mem_append_left _ (List.mem_of_getElem? (i := 7) rfl))) (List.mem_cons_of_mem _ (List.mem_append_left _ (List.mem_of_getElem? (i := 4) rfl))) (fun _ hh => (List.mem_cons_of_mem _ (List.mem_append_right _ (List.mem_append_right _ (List.mem_append_right _ (List.mem_append_left _ hh)))))) gd_o_r_write) rfl rfl rfl (by decide +kernel) ⟨Nat.le_of_ble_eq_true rfl, Nat.le_of_ble_eq_true rfl⟩) ⟨pr_blind, va_recv hKc hPc (ci := 8) (q0 := 0) rfl rfl, pr_use hPc hKc hDc hFc hS hM⟩ rfl rfl hl.1 rfl (lv_room (Nat.le_of_ble_eq_true rfl)) dX8_close_49 ⟨Nat.le_of_ble_eq_true rfl, Nat.le_of_ble_eq_true rfl⟩) hS (fun q _ h => hFc q h) hFc (fun u t H locs ht hvm hw hB hz1 hk1 hS => ?_)
          refine W.widen (k := 0) (n := 0) (Nat.le_of_ble_eq_true rfl) (Nat.le_of_ble_eq_true rfl) ?_
          obtain ⟨cl_35, f_36, hf_38, hP1, hK1, hD1⟩ := hB
          rw [ht] at hP1
          have hK1 := va_K.moved hvm.symm hK1
          obtain ⟨hP, hD⟩ := va_join (wr := []) (w1 := [(h0, .inr (8, [.ref e0, .int (nI cl_35), .ref e2, .int (nI (ol - 1)), .int i4, .int i5, .int i6, .int i7])), (e0, .inl (k0, 60, .inl f_36)), (e2, .inl (k2, 60, .inl g0))]) hP hD [0, 1, 2] [] rfl rfl (by decide) (by decide) hk1 hFc hP1 hD1
          have hK := (hK.sub (tys' := []) [] rfl).app hK1
          have hP : va_P (dC, dI) vwCl [(h0, .inr (8, [.ref e0, .int (nI cl_35), .ref e2, .int (nI (ol - 1)), .int i4, .int i5, .int i6, .int i7])), (e0, .inl (k0, 60, .inl f_36)), (e2, .inl (k2, 60, .inl g0))] H := hP
          have hD : va_D A [(h0, .inr (8, [.ref e0, .int (nI cl_35), .ref e2, .int (nI (ol - 1)), .int i4, .int i5, .int i6, .int i7])), (e0, .inl (k0, 60, .inl f_36)), (e2, .inl (k2, 60, .inl g0))] := hD
          have hK : va_K (dC, dI) vwCl [(k0, .int), (k2, .char)] s := hK
          refine lv_goto (tgt := 0) hx hb dX8_close_52 (by decide) ?_
          exact ih_0  cl_35 (ol - 1) i4 i5 i6 i7 f_36 g0 H _ ls (by omega) hf_38 (by omega) (hK.sub (tys' := [(k0, .int), (k2, .char)]) [0, 1] rfl) (hP.sub (ws' := [(h0, .inr (8, [.ref e0, .int (nI cl_35), .ref e2, .int (nI (ol - 1)), .int i4, .int i5, .int i6, .int i7])), (e0, .inl (k0, 60, .inl f_36)), (e2, .inl (k2, 60, .inl g0))]) [0, 1, 2] rfl) (hD.sub (ws' := [(h0, .inr (8, [.ref e0, .int (nI cl_35), .ref e2, .int (nI (ol - 1)), .int i4, .int i5, .int i6, .int i7])), (e0, .inl (k0, 60, .inl f_36)), (e2, .inl (k2, 60, .inl g0))]) [0, 1, 2] (by decide) rfl) hS (lv_sub hl [0, 1] rfl)
  exact loop_0 ((ol) + 1) cl ol i4 i5 i6 i7 f0 g0 s.heap _ ls (by omega) (by omega) (by omega) (hK.sub (tys' := [(k0, .int), (k2, .char)]) [0, 1] rfl) (hP.sub (ws' := [(h0, .inr (8, [.ref e0, .int (nI cl), .ref e2, .int (nI ol), .int i4, .int i5, .int i6, .int i7])), (e0, .inl (k0, 60, .inl f0)), (e2, .inl (k2, 60, .inl g0))]) [0, 1, 2] rfl) (hD.sub (ws' := [(h0, .inr (8, [.ref e0, .int (nI cl), .ref e2, .int (nI ol), .int i4, .int i5, .int i6, .int i7])), (e0, .inl (k0, 60, .inl f0)), (e2, .inl (k2, 60, .inl g0))]) [0, 1, 2] (by decide) rfl) hS (lv_sub hl [0, 1] rfl)
def wo_o_r_isDigit : List Cond := []
def wm_o_r_isDigit : List Cond := .code yX8_isDigit cX8_isDigit 1 (some .boolean) :: (wo_o_r_isDigit ++ ([] : List Cond))
theorem gd_o_r_isDigit : ∀ w ∈ wm_o_r_isDigit, goodWord w = true := gd_c rfl (gd_a (by decide) gd_nil)
set_option maxRecDepth 20000 in
theorem im_o_r_isDigit : ∀ w ∈ wm_o_r_isDigit, w ∈ lw_tbl := im_c (in_r [.code yX8_isDigit cX8_isDigit 1 (some .boolean)] [332] (by decide +kernel)) (in_app (in_r wo_o_r_isDigit [] (by decide +kernel)) im_nil)
set_option maxHeartbeats 4000000 in
set_option maxRecDepth 100000 in
theorem o_r_isDigit (l : Launch) (dC : Nat → ClassId) (dI : Nat → Nat → Nat) (ad av : Nat → Nat) (sz : Nat) (p0 : Int32) : Met l yX8_isDigit wm_o_r_isDigit ({ frames := 0, cells := 0, slots := 0, locals := 0 }) (pr_ ad av (dC, dI) sz [.int p0] [] []) (va_Qi (fun (r u : Int32) => u = r) (fun (r : Int32) (t : State) => (r = 1 ∧ po_ (dC, dI) (va_A [] sz) [] [] t) ∨ (r = 0 ∧ po_ (dC, dI) (va_A [] sz) [] [] t)) (va_A [] sz)) 0 0 (va_A [] sz) := by
  refine Met.ofW (cc := cX8_isDigit) (maxL := 1) (ret := (some .boolean)) (by decide) rfl ?_
  intro p e s m args below meth c s₁ B hml hv
  obtain ⟨rfl, hsz, hP, hK, hD0, hM⟩ := hv
  have hx := B.exec
  have hb := B.bytes
  have hr := B.returns
  have hts := atoms_spec (ws := wm_o_r_isDigit) B.pre
  have hown : s.vm.findClass RX8 = some m.cls := findClass_of_methodNamed B.named
  have hlocks := B.notSynchronized
  subst hsz
  have hD := hD0.self (sz := s.heap.size)
  generalize hAe : va_A [] s.heap.size = A at hD hM ⊢
  have hA : ∀ q : Nat, s.heap.size ≤ q → A q := fun q h => by rw [← hAe]; exact Or.inr h
  have hS : va_S A s.heap s.heap [] := va_S.rf
  have hP : va_P (dC, dI) vwCl [] s.heap := hP
  have hl := lv_entry ([.int p0]) (n := 1) (Nat.le_of_ble_eq_true rfl)
  rw [lg_entry_eq]
  generalize (lg_sl ([.int p0]) ++ List.replicate (1 - (lg_sl ([.int p0])).length) Slot.unset).toArray = ls at hl ⊢
  have hl : lv_has ls 1 [(0, .int p0)] := hl
  refine lv_iload_n hx hb dX8_isDigit_0 rfl (lv_at hl 0 rfl) ?_
  refine lv_bipush (v := 48) hx hb dX8_isDigit_1 (by decide) ?_
  refine lv_icmp_lt (tgt := 16) hx hb dX8_isDigit_3 (by decide) (fun c_1 => ?_) (fun c_1 => ?_)
  · refine lv_iconst (v := 0) hx hb dX8_isDigit_16 (by decide) ?_
    have hP9 := hP.sub (ws' := []) [] rfl
    have hD9 := hD.sub (ws' := []) [] (by decide) rfl
    have hK9 := hK.sub (tys' := []) [] rfl
    exact W.zret (v := 0) hx hb hr (by decide) (fun t ht hW => ⟨⟨0, 0, rfl, rfl, Or.inr (⟨rfl, by rw [ht]; exact hP9, va_K.moved hW.alike hK9, hD9⟩)⟩, hS.F ht⟩) hS.2.2 dX8_isDigit_17
  · refine lv_iload_n hx hb dX8_isDigit_6 rfl (lv_at hl 0 rfl) ?_
    refine lv_bipush (v := 57) hx hb dX8_isDigit_7 (by decide) ?_
    refine lv_icmp_gt (tgt := 16) hx hb dX8_isDigit_9 (by decide) (fun c_2 => ?_) (fun c_2 => ?_)
    · refine lv_iconst (v := 0) hx hb dX8_isDigit_16 (by decide) ?_
      have hP9 := hP.sub (ws' := []) [] rfl
      have hD9 := hD.sub (ws' := []) [] (by decide) rfl
      have hK9 := hK.sub (tys' := []) [] rfl
      exact W.zret (v := 0) hx hb hr (by decide) (fun t ht hW => ⟨⟨0, 0, rfl, rfl, Or.inr (⟨rfl, by rw [ht]; exact hP9, va_K.moved hW.alike hK9, hD9⟩)⟩, hS.F ht⟩) hS.2.2 dX8_isDigit_17
    · refine lv_iconst (v := 1) hx hb dX8_isDigit_12 (by decide) ?_
      refine lv_goto (tgt := 17) hx hb dX8_isDigit_13 (by decide) ?_
      have hP9 := hP.sub (ws' := []) [] rfl
      have hD9 := hD.sub (ws' := []) [] (by decide) rfl
      have hK9 := hK.sub (tys' := []) [] rfl
      exact W.zret (v := 1) hx hb hr (by decide) (fun t ht hW => ⟨⟨1, 1, rfl, rfl, Or.inl ⟨rfl, by rw [ht]; exact hP9, va_K.moved hW.alike hK9, hD9⟩⟩, hS.F ht⟩) hS.2.2 dX8_isDigit_17
def wo_o_r_goesOnNumber : List Cond := [.fieldLink RX8 32 "TypingPool$Reader" "digits" "I", .fieldLink RX8 19 "TypingPool$Reader" "codeLength" "I", .fieldLink RX8 11 "TypingPool$Reader" "code" "[I"]
def wm_o_r_goesOnNumber : List Cond := .code yX8_goesOnNumber cX8_goesOnNumber 2 (some .boolean) :: (wo_o_r_goesOnNumber ++ (wsX80 ++ ([] : List Cond)))
theorem gd_o_r_goesOnNumber : ∀ w ∈ wm_o_r_goesOnNumber, goodWord w = true := gd_c rfl (gd_a (by decide) (gd_a gd_wsX80 gd_nil))
set_option maxRecDepth 20000 in
theorem im_o_r_goesOnNumber : ∀ w ∈ wm_o_r_goesOnNumber, w ∈ lw_tbl := im_c (in_r [.code yX8_goesOnNumber cX8_goesOnNumber 2 (some .boolean)] [348] (by decide +kernel)) (in_app (in_r wo_o_r_goesOnNumber [176, 171, 170] (by decide +kernel)) (in_app im_wsX80 im_nil))
set_option maxHeartbeats 4000000 in
set_option maxRecDepth 100000 in
theorem o_r_goesOnNumber (l : Launch) (dC : Nat → ClassId) (dI : Nat → Nat → Nat) (ad av : Nat → Nat) (sz : Nat) (h0 : Nat) (e0 : Nat) (e2 : Nat) (cl : Nat) (ol : Nat) (k0 : ClassId) (k2 : ClassId) (f0 : Nat → Int32) (g0 : Nat → Int32) (i4 : Int32) (i5 : Int32) (i6 : Int32) (i7 : Int32) (p0 : Int32) (hcl : cl ≤ 60) (hol : ol ≤ 60) : Met l yX8_goesOnNumber wm_o_r_goesOnNumber ({ frames := 0, cells := 0, slots := 0, locals := 0 }) (pr_ ad av (dC, dI) sz [.ref h0, .int p0] [(h0, .inr (8, [.ref e0, .int (nI cl), .ref e2, .int (nI ol), .int i4, .int i5, .int i6, .int i7])), (e0, .inl (k0, 60, .inl f0)), (e2, .inl (k2, 60, .inl g0))] [(k0, .int), (k2, .char)]) (va_Qi (fun (r u : Int32) => u = r) (fun (r : Int32) (t : State) => (∃ (cl1 : Nat), ∃ (ol1 : Nat), ∃ (j4 : Int32), ∃ (j5 : Int32), ∃ (j6 : Int32), ∃ (j7 : Int32), ∃ (f1 : Nat → Int32), ∃ (g1 : Nat → Int32), r = 1 ∧ cl1 ≤ 60 ∧ ol1 ≤ 60 ∧ po_ (dC, dI) (va_A [(h0, .inr (8, [.ref e0, .int (nI cl), .ref e2, .int (nI ol), .int i4, .int i5, .int i6, .int i7])), (e0, .inl (k0, 60, .inl f0)), (e2, .inl (k2, 60, .inl g0))] sz) [(h0, .inr (8, [.ref e0, .int (nI cl1), .ref e2, .int (nI ol1), .int j4, .int j5, .int j6, .int j7])), (e0, .inl (k0, 60, .inl f1)), (e2, .inl (k2, 60, .inl g1))] [(k0, .int), (k2, .char)] t) ∨ (∃ (cl1 : Nat), ∃ (ol1 : Nat), ∃ (j4 : Int32), ∃ (j5 : Int32), ∃ (j6 : Int32), ∃ (j7 : Int32), ∃ (f1 : Nat → Int32), ∃ (g1 : Nat → Int32), r = 0 ∧ cl1 ≤ 60 ∧ ol1 ≤ 60 ∧ po_ (dC, dI) (va_A [(h0, .inr (8, [.ref e0, .int (nI cl), .ref e2, .int (nI ol), .int i4, .int i5, .int i6, .int i7])), (e0, .inl (k0, 60, .inl f0)), (e2, .inl (k2, 60, .inl g0))] sz) [(h0, .inr (8, [.ref e0, .int (nI cl1), .ref e2, .int (nI ol1), .int j4, .int j5, .int j6, .int j7])), (e0, .inl (k0, 60, .inl f1)), (e2, .inl (k2, 60, .inl g1))] [(k0, .int), (k2, .char)] t)) (va_A [(h0, .inr (8, [.ref e0, .int (nI cl), .ref e2, .int (nI ol), .int i4, .int i5, .int i6, .int i7])), (e0, .inl (k0, 60, .inl f0)), (e2, .inl (k2, 60, .inl g0))] sz)) 0 0 (va_A [(h0, .inr (8, [.ref e0, .int (nI cl), .ref e2, .int (nI ol), .int i4, .int i5, .int i6, .int i7])), (e0, .inl (k0, 60, .inl f0)), (e2, .inl (k2, 60, .inl g0))] sz) := by
  refine Met.ofW (cc := cX8_goesOnNumber) (maxL := 2) (ret := (some .boolean)) (by decide) rfl ?_
  intro p e s m args below meth c s₁ B hml hv
  obtain ⟨rfl, hsz, hP, hK, hD0, hM⟩ := hv
  have hx := B.exec
  have hb := B.bytes
  have hr := B.returns
  have hts := atoms_spec (ws := wm_o_r_goesOnNumber) B.pre
  have hown : s.vm.findClass RX8 = some m.cls := findClass_of_methodNamed B.named
  have hlocks := B.notSynchronized
  subst hsz
  have hD := hD0.self (sz := s.heap.size)
  generalize hAe : va_A [(h0, .inr (8, [.ref e0, .int (nI cl), .ref e2, .int (nI ol), .int i4, .int i5, .int i6, .int i7])), (e0, .inl (k0, 60, .inl f0)), (e2, .inl (k2, 60, .inl g0))] s.heap.size = A at hD hM ⊢
  have hA : ∀ q : Nat, s.heap.size ≤ q → A q := fun q h => by rw [← hAe]; exact Or.inr h
  have hS : va_S A s.heap s.heap [] := va_S.rf
  have hP : va_P (dC, dI) vwCl [(h0, .inr (8, [.ref e0, .int (nI cl), .ref e2, .int (nI ol), .int i4, .int i5, .int i6, .int i7])), (e0, .inl (k0, 60, .inl f0)), (e2, .inl (k2, 60, .inl g0))] s.heap := hP
  have hl := lv_entry ([.ref h0, .int p0]) (n := 2) (Nat.le_of_ble_eq_true rfl)
  rw [lg_entry_eq]
  generalize (lg_sl ([.ref h0, .int p0]) ++ List.replicate (2 - (lg_sl ([.ref h0, .int p0])).length) Slot.unset).toArray = ls at hl ⊢
  have hl : lv_has ls 2 [(0, .ref h0), (1, .int p0)] := hl
  refine lv_aload_n hx hb dX8_goesOnNumber_0 rfl (lv_at hl 0 rfl) ?_
  refine va_get (D := (dC, dI)) (ci := 8) (v := .int i6) (C := RX8) (T := TX8) (N := 8) hx hb hts (fun _ hh => (List.mem_cons_of_mem _ (List.mem_append_right _ (List.mem_append_left _ hh)))) hown hK hP 0 rfl rfl 6 (by decide) (hts (.fieldLink RX8 32 "TypingPool$Reader" "digits" "I") (List.mem_cons_of_mem _ (List.mem_append_left _ (List.mem_of_getElem? (i := 0) rfl)))) (fun _ h9 => h9) rfl dX8_goesOnNumber_1 ?_
  refine lv_if_eq (tgt := 23) hx hb dX8_goesOnNumber_4 (by decide) (fun c_17 => ?_) (fun c_17 => ?_)
  · refine lv_iconst (v := 0) hx hb dX8_goesOnNumber_23 (by decide) ?_
    have hP9 := hP.sub (ws' := [(h0, .inr (8, [.ref e0, .int (nI cl), .ref e2, .int (nI ol), .int i4, .int i5, .int i6, .int i7])), (e0, .inl (k0, 60, .inl f0)), (e2, .inl (k2, 60, .inl g0))]) [0, 1, 2] rfl
    have hD9 := hD.sub (ws' := [(h0, .inr (8, [.ref e0, .int (nI cl), .ref e2, .int (nI ol), .int i4, .int i5, .int i6, .int i7])), (e0, .inl (k0, 60, .inl f0)), (e2, .inl (k2, 60, .inl g0))]) [0, 1, 2] (by decide) rfl
    have hK9 := hK.sub (tys' := [(k0, .int), (k2, .char)]) [0, 1] rfl
    exact W.zret (v := 0) hx hb hr (by decide) (fun t ht hW => ⟨⟨0, 0, rfl, rfl, Or.inr (⟨cl, ol, i4, i5, i6, i7, f0, g0, rfl, (by omega), (by omega), by rw [ht]; exact hP9, va_K.moved hW.alike hK9, hD9⟩)⟩, hS.F ht⟩) hS.2.2 dX8_goesOnNumber_24
  · refine lv_aload_n hx hb dX8_goesOnNumber_7 rfl (lv_at hl 0 rfl) ?_
    refine va_get (D := (dC, dI)) (ci := 8) (v := .int i6) (C := RX8) (T := TX8) (N := 8) hx hb hts (fun _ hh => (List.mem_cons_of_mem _ (List.mem_append_right _ (List.mem_append_left _ hh)))) hown hK hP 0 rfl rfl 6 (by decide) (hts (.fieldLink RX8 32 "TypingPool$Reader" "digits" "I") (List.mem_cons_of_mem _ (List.mem_append_left _ (List.mem_of_getElem? (i := 0) rfl)))) (fun _ h9 => h9) rfl dX8_goesOnNumber_8 ?_
    refine lv_iconst (v := 4) hx hb dX8_goesOnNumber_11 (by decide) ?_
    refine lv_icmp_ge (tgt := 23) hx hb dX8_goesOnNumber_12 (by decide) (fun c_18 => ?_) (fun c_18 => ?_)
    · refine lv_iconst (v := 0) hx hb dX8_goesOnNumber_23 (by decide) ?_
      have hP9 := hP.sub (ws' := [(h0, .inr (8, [.ref e0, .int (nI cl), .ref e2, .int (nI ol), .int i4, .int i5, .int i6, .int i7])), (e0, .inl (k0, 60, .inl f0)), (e2, .inl (k2, 60, .inl g0))]) [0, 1, 2] rfl
      have hD9 := hD.sub (ws' := [(h0, .inr (8, [.ref e0, .int (nI cl), .ref e2, .int (nI ol), .int i4, .int i5, .int i6, .int i7])), (e0, .inl (k0, 60, .inl f0)), (e2, .inl (k2, 60, .inl g0))]) [0, 1, 2] (by decide) rfl
      have hK9 := hK.sub (tys' := [(k0, .int), (k2, .char)]) [0, 1] rfl
      exact W.zret (v := 0) hx hb hr (by decide) (fun t ht hW => ⟨⟨0, 0, rfl, rfl, Or.inr (⟨cl, ol, i4, i5, i6, i7, f0, g0, rfl, (by omega), (by omega), by rw [ht]; exact hP9, va_K.moved hW.alike hK9, hD9⟩)⟩, hS.F ht⟩) hS.2.2 dX8_goesOnNumber_24
    · refine lv_aload_n hx hb dX8_goesOnNumber_15 rfl (lv_at hl 0 rfl) ?_
      refine va_get (D := (dC, dI)) (ci := 8) (v := .int (nI cl)) (C := RX8) (T := TX8) (N := 8) hx hb hts (fun _ hh => (List.mem_cons_of_mem _ (List.mem_append_right _ (List.mem_append_left _ hh)))) hown hK hP 0 rfl rfl 1 (by decide) (hts (.fieldLink RX8 19 "TypingPool$Reader" "codeLength" "I") (List.mem_cons_of_mem _ (List.mem_append_left _ (List.mem_of_getElem? (i := 1) rfl)))) (fun _ h9 => h9) rfl dX8_goesOnNumber_16 ?_
      refine lv_iconst (v := 1) hx hb dX8_goesOnNumber_19 (by decide) ?_
      refine lv_icmp_ge (tgt := 25) hx hb dX8_goesOnNumber_20 (by decide) (fun c_19 => ?_) (fun c_19 => ?_)
      · have hn_c_19 := q_le 1 cl c_19 rfl rfl (by omega) (by omega)
        refine lv_aload_n hx hb dX8_goesOnNumber_25 rfl (lv_at hl 0 rfl) ?_
        refine va_get (D := (dC, dI)) (ci := 8) (v := .ref e0) (C := RX8) (T := TX8) (N := 8) hx hb hts (fun _ hh => (List.mem_cons_of_mem _ (List.mem_append_right _ (List.mem_append_left _ hh)))) hown hK hP 0 rfl rfl 0 (by decide) (hts (.fieldLink RX8 11 "TypingPool$Reader" "code" "[I") (List.mem_cons_of_mem _ (List.mem_append_left _ (List.mem_of_getElem? (i := 2) rfl)))) (fun _ h9 => h9) rfl dX8_goesOnNumber_26 ?_
        refine lv_aload_n hx hb dX8_goesOnNumber_29 rfl (lv_at hl 0 rfl) ?_
        refine va_get (D := (dC, dI)) (ci := 8) (v := .int (nI cl)) (C := RX8) (T := TX8) (N := 8) hx hb hts (fun _ hh => (List.mem_cons_of_mem _ (List.mem_append_right _ (List.mem_append_left _ hh)))) hown hK hP 0 rfl rfl 1 (by decide) (hts (.fieldLink RX8 19 "TypingPool$Reader" "codeLength" "I") (List.mem_cons_of_mem _ (List.mem_append_left _ (List.mem_of_getElem? (i := 1) rfl)))) (fun _ h9 => h9) rfl dX8_goesOnNumber_30 ?_
        refine lv_iconst (v := 1) hx hb dX8_goesOnNumber_33 (by decide) ?_
        refine lv_isub hx hb dX8_goesOnNumber_34 ?_
        refine lq_top (v := nI (cl - 1)) (pk_sub (a := cl) (b := 1) (by omega)) ?_
        refine lv_aload_n hx hb dX8_goesOnNumber_35 rfl (lv_at hl 0 rfl) ?_
        refine va_get (D := (dC, dI)) (ci := 8) (v := .ref e0) (C := RX8) (T := TX8) (N := 8) hx hb hts (fun _ hh => (List.mem_cons_of_mem _ (List.mem_append_right _ (List.mem_append_left _ hh)))) hown hK hP 0 rfl rfl 0 (by decide) (hts (.fieldLink RX8 11 "TypingPool$Reader" "code" "[I") (List.mem_cons_of_mem _ (List.mem_append_left _ (List.mem_of_getElem? (i := 2) rfl)))) (fun _ h9 => h9) rfl dX8_goesOnNumber_36 ?_
        refine lv_aload_n hx hb dX8_goesOnNumber_39 rfl (lv_at hl 0 rfl) ?_
        refine va_get (D := (dC, dI)) (ci := 8) (v := .int (nI cl)) (C := RX8) (T := TX8) (N := 8) hx hb hts (fun _ hh => (List.mem_cons_of_mem _ (List.mem_append_right _ (List.mem_append_left _ hh)))) hown hK hP 0 rfl rfl 1 (by decide) (hts (.fieldLink RX8 19 "TypingPool$Reader" "codeLength" "I") (List.mem_cons_of_mem _ (List.mem_append_left _ (List.mem_of_getElem? (i := 1) rfl)))) (fun _ h9 => h9) rfl dX8_goesOnNumber_40 ?_
        refine lv_iconst (v := 1) hx hb dX8_goesOnNumber_43 (by decide) ?_
        refine lv_isub hx hb dX8_goesOnNumber_44 ?_
        refine lq_top (v := nI (cl - 1)) (pk_sub (a := cl) (b := 1) (by omega)) ?_
        refine va_iald hx hb hK hP 1 0 rfl rfl (vp_in_nI (n := cl - 1) (by omega) (by omega)) dX8_goesOnNumber_45 ?_
        refine lv_topi (fun x_20 ex_20 => ?_)
        refine lv_bipush (v := 10) hx hb dX8_goesOnNumber_46 (by decide) ?_
        refine lv_imul hx hb dX8_goesOnNumber_48 ?_
        refine lv_topi (fun x_21 ex_21 => ?_)
        refine lv_iload_n hx hb dX8_goesOnNumber_49 rfl (lv_at hl 1 rfl) ?_
        refine lv_bipush (v := 48) hx hb dX8_goesOnNumber_50 (by decide) ?_
        refine lv_isub hx hb dX8_goesOnNumber_52 ?_
        refine lv_topi (fun x_22 ex_22 => ?_)
        refine lv_iadd hx hb dX8_goesOnNumber_53 ?_
        refine lv_topi (fun x_23 ex_23 => ?_)
        refine va_iast hx hb hK hP hD hS 1 0 rfl rfl (vp_in_nI (n := cl - 1) (by omega) (by omega)) dX8_goesOnNumber_54 (fun H locs hP hD hS => ?_)
        obtain ⟨f_24, ef_24⟩ : ∃ y : Nat → Int32, y = upd f0 (nI (cl - 1)).toNatClampNeg x_23 := ⟨_, rfl⟩
        have hP : va_P (dC, dI) vwCl [(h0, .inr (8, [.ref e0, .int (nI cl), .ref e2, .int (nI ol), .int i4, .int i5, .int i6, .int i7])), (e0, .inl (k0, 60, .inl f_24)), (e2, .inl (k2, 60, .inl g0))] H := by rw [ef_24]; exact hP
        have hD : va_D A [(h0, .inr (8, [.ref e0, .int (nI cl), .ref e2, .int (nI ol), .int i4, .int i5, .int i6, .int i7])), (e0, .inl (k0, 60, .inl f_24)), (e2, .inl (k2, 60, .inl g0))] := by rw [ef_24]; exact hD
        refine lv_aload_n hx hb dX8_goesOnNumber_55 rfl (lv_at hl 0 rfl) ?_
        refine lv_dup hx hb dX8_goesOnNumber_56 rfl ?_
        refine va_get (D := (dC, dI)) (ci := 8) (v := .int i6) (C := RX8) (T := TX8) (N := 8) hx hb hts (fun _ hh => (List.mem_cons_of_mem _ (List.mem_append_right _ (List.mem_append_left _ hh)))) hown hK hP 0 rfl rfl 6 (by decide) (hts (.fieldLink RX8 32 "TypingPool$Reader" "digits" "I") (List.mem_cons_of_mem _ (List.mem_append_left _ (List.mem_of_getElem? (i := 0) rfl)))) (fun _ h9 => h9) rfl dX8_goesOnNumber_57 ?_
        refine lv_iconst (v := 1) hx hb dX8_goesOnNumber_60 (by decide) ?_
        refine lv_iadd hx hb dX8_goesOnNumber_61 ?_
        refine lv_topi (fun x_25 ex_25 => ?_)
        refine va_put (D := (dC, dI)) (ci := 8) (v := .int x_25) (ty := .int) (C := RX8) (T := TX8) (N := 8) hx hb hts (fun _ hh => (List.mem_cons_of_mem _ (List.mem_append_right _ (List.mem_append_left _ hh)))) tyX8 tyX8_ok nmX8 hown hK hP hD hS 0 rfl rfl 6 (by decide) (hts (.fieldLink RX8 32 "TypingPool$Reader" "digits" "I") (List.mem_cons_of_mem _ (List.mem_append_left _ (List.mem_of_getElem? (i := 0) rfl)))) (fun _ h9 => h9) rfl (tyX8_ok 6 (by decide)) rfl rfl (Nat.le_of_ble_eq_true rfl) dX8_goesOnNumber_62 (fun H locs hP hD hS => ?_)
        have hP : va_P (dC, dI) vwCl [(h0, .inr (8, [.ref e0, .int (nI cl), .ref e2, .int (nI ol), .int i4, .int i5, .int x_25, .int i7])), (e0, .inl (k0, 60, .inl f_24)), (e2, .inl (k2, 60, .inl g0))] H := hP
        have hD : va_D A [(h0, .inr (8, [.ref e0, .int (nI cl), .ref e2, .int (nI ol), .int i4, .int i5, .int x_25, .int i7])), (e0, .inl (k0, 60, .inl f_24)), (e2, .inl (k2, 60, .inl g0))] := hD
        refine lv_iconst (v := 1) hx hb dX8_goesOnNumber_65 (by decide) ?_
        have hP9 := hP.sub (ws' := [(h0, .inr (8, [.ref e0, .int (nI cl), .ref e2, .int (nI ol), .int i4, .int i5, .int x_25, .int i7])), (e0, .inl (k0, 60, .inl f_24)), (e2, .inl (k2, 60, .inl g0))]) [0, 1, 2] rfl
        have hD9 := hD.sub (ws' := [(h0, .inr (8, [.ref e0, .int (nI cl), .ref e2, .int (nI ol), .int i4, .int i5, .int x_25, .int i7])), (e0, .inl (k0, 60, .inl f_24)), (e2, .inl (k2, 60, .inl g0))]) [0, 1, 2] (by decide) rfl
        have hK9 := hK.sub (tys' := [(k0, .int), (k2, .char)]) [0, 1] rfl
        exact W.zret (v := 1) hx hb hr (by decide) (fun t ht hW => ⟨⟨1, 1, rfl, rfl, Or.inl ⟨cl, ol, i4, i5, x_25, i7, f_24, g0, rfl, (by omega), (by omega), by rw [ht]; exact hP9, va_K.moved hW.alike hK9, hD9⟩⟩, hS.F ht⟩) hS.2.2 dX8_goesOnNumber_66
      · have hn_c_19 := q_nle 1 cl c_19 rfl rfl (by omega) (by omega)
        refine lv_iconst (v := 0) hx hb dX8_goesOnNumber_23 (by decide) ?_
        have hP9 := hP.sub (ws' := [(h0, .inr (8, [.ref e0, .int (nI cl), .ref e2, .int (nI ol), .int i4, .int i5, .int i6, .int i7])), (e0, .inl (k0, 60, .inl f0)), (e2, .inl (k2, 60, .inl g0))]) [0, 1, 2] rfl
        have hD9 := hD.sub (ws' := [(h0, .inr (8, [.ref e0, .int (nI cl), .ref e2, .int (nI ol), .int i4, .int i5, .int i6, .int i7])), (e0, .inl (k0, 60, .inl f0)), (e2, .inl (k2, 60, .inl g0))]) [0, 1, 2] (by decide) rfl
        have hK9 := hK.sub (tys' := [(k0, .int), (k2, .char)]) [0, 1] rfl
        exact W.zret (v := 0) hx hb hr (by decide) (fun t ht hW => ⟨⟨0, 0, rfl, rfl, Or.inr (⟨cl, ol, i4, i5, i6, i7, f0, g0, rfl, (by omega), (by omega), by rw [ht]; exact hP9, va_K.moved hW.alike hK9, hD9⟩)⟩, hS.F ht⟩) hS.2.2 dX8_goesOnNumber_24
def wo_o_r_keepOpen : List Cond := [.fieldLink RX8 23 "TypingPool$Reader" "openLength" "I", .fieldLink RX8 15 "TypingPool$Reader" "open" "[C"]
def wm_o_r_keepOpen : List Cond := .code yX8_keepOpen cX8_keepOpen 2 none :: (wo_o_r_keepOpen ++ (wsX80 ++ ([] : List Cond)))
theorem gd_o_r_keepOpen : ∀ w ∈ wm_o_r_keepOpen, goodWord w = true := gd_c rfl (gd_a (by decide) (gd_a gd_wsX80 gd_nil))
set_option maxRecDepth 20000 in
theorem im_o_r_keepOpen : ∀ w ∈ wm_o_r_keepOpen, w ∈ lw_tbl := im_c (in_r [.code yX8_keepOpen cX8_keepOpen 2 none] [340] (by decide +kernel)) (in_app (in_r wo_o_r_keepOpen [173, 172] (by decide +kernel)) (in_app im_wsX80 im_nil))
set_option maxHeartbeats 4000000 in
set_option maxRecDepth 100000 in
theorem o_r_keepOpen (l : Launch) (dC : Nat → ClassId) (dI : Nat → Nat → Nat) (ad av : Nat → Nat) (sz : Nat) (h0 : Nat) (e0 : Nat) (e2 : Nat) (cl : Nat) (ol : Nat) (k0 : ClassId) (k2 : ClassId) (f0 : Nat → Int32) (g0 : Nat → Int32) (i4 : Int32) (i5 : Int32) (i6 : Int32) (i7 : Int32) (p0 : Int32) (hcl : cl ≤ 60) (hol : ol ≤ 60) : Met l yX8_keepOpen wm_o_r_keepOpen ({ frames := 0, cells := 0, slots := 0, locals := 0 }) (pr_ ad av (dC, dI) sz [.ref h0, .int p0] [(h0, .inr (8, [.ref e0, .int (nI cl), .ref e2, .int (nI ol), .int i4, .int i5, .int i6, .int i7])), (e0, .inl (k0, 60, .inl f0)), (e2, .inl (k2, 60, .inl g0))] [(k0, .int), (k2, .char)]) (va_Qv (fun (_ : Unit) => True) (fun (_ : Unit) (t : State) => (∃ (ol1 : Nat), ∃ (g1 : Nat → Int32), ol1 ≤ 60 ∧ po_ (dC, dI) (va_A [(h0, .inr (8, [.ref e0, .int (nI cl), .ref e2, .int (nI ol), .int i4, .int i5, .int i6, .int i7])), (e0, .inl (k0, 60, .inl f0)), (e2, .inl (k2, 60, .inl g0))] sz) [(h0, .inr (8, [.ref e0, .int (nI cl), .ref e2, .int (nI ol1), .int i4, .int i5, .int i6, .int i7])), (e0, .inl (k0, 60, .inl f0)), (e2, .inl (k2, 60, .inl g1))] [(k0, .int), (k2, .char)] t)) (va_A [(h0, .inr (8, [.ref e0, .int (nI cl), .ref e2, .int (nI ol), .int i4, .int i5, .int i6, .int i7])), (e0, .inl (k0, 60, .inl f0)), (e2, .inl (k2, 60, .inl g0))] sz)) 0 0 (va_A [(h0, .inr (8, [.ref e0, .int (nI cl), .ref e2, .int (nI ol), .int i4, .int i5, .int i6, .int i7])), (e0, .inl (k0, 60, .inl f0)), (e2, .inl (k2, 60, .inl g0))] sz) := by
  refine Met.ofW (cc := cX8_keepOpen) (maxL := 2) (ret := none) (by decide) rfl ?_
  intro p e s m args below meth c s₁ B hml hv
  obtain ⟨rfl, hsz, hP, hK, hD0, hM⟩ := hv
  have hx := B.exec
  have hb := B.bytes
  have hr := B.returns
  have hts := atoms_spec (ws := wm_o_r_keepOpen) B.pre
  have hown : s.vm.findClass RX8 = some m.cls := findClass_of_methodNamed B.named
  have hlocks := B.notSynchronized
  subst hsz
  have hD := hD0.self (sz := s.heap.size)
  generalize hAe : va_A [(h0, .inr (8, [.ref e0, .int (nI cl), .ref e2, .int (nI ol), .int i4, .int i5, .int i6, .int i7])), (e0, .inl (k0, 60, .inl f0)), (e2, .inl (k2, 60, .inl g0))] s.heap.size = A at hD hM ⊢
  have hA : ∀ q : Nat, s.heap.size ≤ q → A q := fun q h => by rw [← hAe]; exact Or.inr h
  have hS : va_S A s.heap s.heap [] := va_S.rf
  have hP : va_P (dC, dI) vwCl [(h0, .inr (8, [.ref e0, .int (nI cl), .ref e2, .int (nI ol), .int i4, .int i5, .int i6, .int i7])), (e0, .inl (k0, 60, .inl f0)), (e2, .inl (k2, 60, .inl g0))] s.heap := hP
  have hl := lv_entry ([.ref h0, .int p0]) (n := 2) (Nat.le_of_ble_eq_true rfl)
  rw [lg_entry_eq]
  generalize (lg_sl ([.ref h0, .int p0]) ++ List.replicate (2 - (lg_sl ([.ref h0, .int p0])).length) Slot.unset).toArray = ls at hl ⊢
  have hl : lv_has ls 2 [(0, .ref h0), (1, .int p0)] := hl
  refine lv_aload_n hx hb dX8_keepOpen_0 rfl (lv_at hl 0 rfl) ?_
  refine va_get (D := (dC, dI)) (ci := 8) (v := .int (nI ol)) (C := RX8) (T := TX8) (N := 8) hx hb hts (fun _ hh => (List.mem_cons_of_mem _ (List.mem_append_right _ (List.mem_append_left _ hh)))) hown hK hP 0 rfl rfl 3 (by decide) (hts (.fieldLink RX8 23 "TypingPool$Reader" "openLength" "I") (List.mem_cons_of_mem _ (List.mem_append_left _ (List.mem_of_getElem? (i := 0) rfl)))) (fun _ h9 => h9) rfl dX8_keepOpen_1 ?_
  refine lv_aload_n hx hb dX8_keepOpen_4 rfl (lv_at hl 0 rfl) ?_
  refine va_get (D := (dC, dI)) (ci := 8) (v := .ref e2) (C := RX8) (T := TX8) (N := 8) hx hb hts (fun _ hh => (List.mem_cons_of_mem _ (List.mem_append_right _ (List.mem_append_left _ hh)))) hown hK hP 0 rfl rfl 2 (by decide) (hts (.fieldLink RX8 15 "TypingPool$Reader" "open" "[C") (List.mem_cons_of_mem _ (List.mem_append_left _ (List.mem_of_getElem? (i := 1) rfl)))) (fun _ h9 => h9) rfl dX8_keepOpen_5 ?_
  refine va_alen (v := 60) hx hb hK hP 2 1 rfl rfl rfl dX8_keepOpen_8 ?_
  refine lv_icmp_ge (tgt := 32) hx hb dX8_keepOpen_9 (by decide) (fun c_15 => ?_) (fun c_15 => ?_)
  · have hn_c_15 := q_le 60 ol c_15 rfl rfl (by omega) (by omega)
    have hP9 := hP.sub (ws' := [(h0, .inr (8, [.ref e0, .int (nI cl), .ref e2, .int (nI ol), .int i4, .int i5, .int i6, .int i7])), (e0, .inl (k0, 60, .inl f0)), (e2, .inl (k2, 60, .inl g0))]) [0, 1, 2] rfl
    have hD9 := hD.sub (ws' := [(h0, .inr (8, [.ref e0, .int (nI cl), .ref e2, .int (nI ol), .int i4, .int i5, .int i6, .int i7])), (e0, .inl (k0, 60, .inl f0)), (e2, .inl (k2, 60, .inl g0))]) [0, 1, 2] (by decide) rfl
    have hK9 := hK.sub (tys' := [(k0, .int), (k2, .char)]) [0, 1] rfl
    exact W.vret hx hb hr (fun t ht hW => ⟨⟨(), rfl, trivial, ⟨ol, g0, (by omega), by rw [ht]; exact hP9, va_K.moved hW.alike hK9, hD9⟩⟩, hS.F ht⟩) hS.2.2 dX8_keepOpen_32
  · have hn_c_15 := q_nle 60 ol c_15 rfl rfl (by omega) (by omega)
    refine lv_aload_n hx hb dX8_keepOpen_12 rfl (lv_at hl 0 rfl) ?_
    refine va_get (D := (dC, dI)) (ci := 8) (v := .ref e2) (C := RX8) (T := TX8) (N := 8) hx hb hts (fun _ hh => (List.mem_cons_of_mem _ (List.mem_append_right _ (List.mem_append_left _ hh)))) hown hK hP 0 rfl rfl 2 (by decide) (hts (.fieldLink RX8 15 "TypingPool$Reader" "open" "[C") (List.mem_cons_of_mem _ (List.mem_append_left _ (List.mem_of_getElem? (i := 1) rfl)))) (fun _ h9 => h9) rfl dX8_keepOpen_13 ?_
    refine lv_aload_n hx hb dX8_keepOpen_16 rfl (lv_at hl 0 rfl) ?_
    refine va_get (D := (dC, dI)) (ci := 8) (v := .int (nI ol)) (C := RX8) (T := TX8) (N := 8) hx hb hts (fun _ hh => (List.mem_cons_of_mem _ (List.mem_append_right _ (List.mem_append_left _ hh)))) hown hK hP 0 rfl rfl 3 (by decide) (hts (.fieldLink RX8 23 "TypingPool$Reader" "openLength" "I") (List.mem_cons_of_mem _ (List.mem_append_left _ (List.mem_of_getElem? (i := 0) rfl)))) (fun _ h9 => h9) rfl dX8_keepOpen_17 ?_
    refine lv_iload_n hx hb dX8_keepOpen_20 rfl (lv_at hl 1 rfl) ?_
    refine va_cast hx hb hK hP hD hS 2 1 rfl rfl (vp_in_nI (n := ol) (by omega) (by omega)) dX8_keepOpen_21 (fun H locs hP hD hS => ?_)
    obtain ⟨f_16, ef_16⟩ : ∃ y : Nat → Int32, y = upd g0 (nI ol).toNatClampNeg (vp_nar .char p0) := ⟨_, rfl⟩
    have hP : va_P (dC, dI) vwCl [(h0, .inr (8, [.ref e0, .int (nI cl), .ref e2, .int (nI ol), .int i4, .int i5, .int i6, .int i7])), (e0, .inl (k0, 60, .inl f0)), (e2, .inl (k2, 60, .inl f_16))] H := by rw [ef_16]; exact hP
    have hD : va_D A [(h0, .inr (8, [.ref e0, .int (nI cl), .ref e2, .int (nI ol), .int i4, .int i5, .int i6, .int i7])), (e0, .inl (k0, 60, .inl f0)), (e2, .inl (k2, 60, .inl f_16))] := by rw [ef_16]; exact hD
    refine lv_aload_n hx hb dX8_keepOpen_22 rfl (lv_at hl 0 rfl) ?_
    refine lv_dup hx hb dX8_keepOpen_23 rfl ?_
    refine va_get (D := (dC, dI)) (ci := 8) (v := .int (nI ol)) (C := RX8) (T := TX8) (N := 8) hx hb hts (fun _ hh => (List.mem_cons_of_mem _ (List.mem_append_right _ (List.mem_append_left _ hh)))) hown hK hP 0 rfl rfl 3 (by decide) (hts (.fieldLink RX8 23 "TypingPool$Reader" "openLength" "I") (List.mem_cons_of_mem _ (List.mem_append_left _ (List.mem_of_getElem? (i := 0) rfl)))) (fun _ h9 => h9) rfl dX8_keepOpen_24 ?_
    refine lv_iconst (v := 1) hx hb dX8_keepOpen_27 (by decide) ?_
    refine lv_iadd hx hb dX8_keepOpen_28 ?_
    refine lq_top (v := nI (ol + 1)) (nI_add ol 1) ?_
    refine va_put (D := (dC, dI)) (ci := 8) (v := .int (nI (ol + 1))) (ty := .int) (C := RX8) (T := TX8) (N := 8) hx hb hts (fun _ hh => (List.mem_cons_of_mem _ (List.mem_append_right _ (List.mem_append_left _ hh)))) tyX8 tyX8_ok nmX8 hown hK hP hD hS 0 rfl rfl 3 (by decide) (hts (.fieldLink RX8 23 "TypingPool$Reader" "openLength" "I") (List.mem_cons_of_mem _ (List.mem_append_left _ (List.mem_of_getElem? (i := 0) rfl)))) (fun _ h9 => h9) rfl (tyX8_ok 3 (by decide)) rfl rfl (Nat.le_of_ble_eq_true rfl) dX8_keepOpen_29 (fun H locs hP hD hS => ?_)
    have hP : va_P (dC, dI) vwCl [(h0, .inr (8, [.ref e0, .int (nI cl), .ref e2, .int (nI (ol + 1)), .int i4, .int i5, .int i6, .int i7])), (e0, .inl (k0, 60, .inl f0)), (e2, .inl (k2, 60, .inl f_16))] H := hP
    have hD : va_D A [(h0, .inr (8, [.ref e0, .int (nI cl), .ref e2, .int (nI (ol + 1)), .int i4, .int i5, .int i6, .int i7])), (e0, .inl (k0, 60, .inl f0)), (e2, .inl (k2, 60, .inl f_16))] := hD
    have hP9 := hP.sub (ws' := [(h0, .inr (8, [.ref e0, .int (nI cl), .ref e2, .int (nI (ol + 1)), .int i4, .int i5, .int i6, .int i7])), (e0, .inl (k0, 60, .inl f0)), (e2, .inl (k2, 60, .inl f_16))]) [0, 1, 2] rfl
    have hD9 := hD.sub (ws' := [(h0, .inr (8, [.ref e0, .int (nI cl), .ref e2, .int (nI (ol + 1)), .int i4, .int i5, .int i6, .int i7])), (e0, .inl (k0, 60, .inl f0)), (e2, .inl (k2, 60, .inl f_16))]) [0, 1, 2] (by decide) rfl
    have hK9 := hK.sub (tys' := [(k0, .int), (k2, .char)]) [0, 1] rfl
    exact W.vret hx hb hr (fun t ht hW => ⟨⟨(), rfl, trivial, ⟨ol + 1, f_16, (by omega), by rw [ht]; exact hP9, va_K.moved hW.alike hK9, hD9⟩⟩, hS.F ht⟩) hS.2.2 dX8_keepOpen_32
def wo_o_r_closesBracket : List Cond := [.fieldLink RX8 26 "TypingPool$Reader" "depth" "I", .methodLink RX8 53 yX8_close, .instanceMethod yX8_close, .selects RX8 yX8_close yX8_close, .initialized RX8, .fieldLink RX8 23 "TypingPool$Reader" "openLength" "I"]
def wm_o_r_closesBracket : List Cond := .code yX8_closesBracket cX8_closesBracket 1 (some .boolean) :: (wo_o_r_closesBracket ++ (wsX80 ++ (wm_o_r_close ++ ([] : List Cond))))
theorem gd_o_r_closesBracket : ∀ w ∈ wm_o_r_closesBracket, goodWord w = true := gd_c rfl (gd_a (by decide) (gd_a gd_wsX80 (gd_a gd_o_r_close gd_nil)))
set_option maxRecDepth 20000 in
theorem im_o_r_closesBracket : ∀ w ∈ wm_o_r_closesBracket, w ∈ lw_tbl := im_c (in_r [.code yX8_closesBracket cX8_closesBracket 1 (some .boolean)] [352] (by decide +kernel)) (in_app (in_r wo_o_r_closesBracket [174, 353, 355, 6, 73, 173] (by decide +kernel)) (in_app im_wsX80 (in_app im_o_r_close im_nil)))
set_option maxHeartbeats 4000000 in
set_option maxRecDepth 100000 in
theorem o_r_closesBracket (l : Launch) (dC : Nat → ClassId) (dI : Nat → Nat → Nat) (ad av : Nat → Nat) (sz : Nat) (h0 : Nat) (e0 : Nat) (e2 : Nat) (cl : Nat) (ol : Nat) (k0 : ClassId) (k2 : ClassId) (f0 : Nat → Int32) (g0 : Nat → Int32) (i4 : Int32) (i5 : Int32) (i6 : Int32) (i7 : Int32) (hcl : cl ≤ 60) (hol : ol ≤ 60) : Met l yX8_closesBracket wm_o_r_closesBracket ({ frames := 3, cells := 0, slots := 0, locals := 100 }) (pr_ ad av (dC, dI) sz [.ref h0] [(h0, .inr (8, [.ref e0, .int (nI cl), .ref e2, .int (nI ol), .int i4, .int i5, .int i6, .int i7])), (e0, .inl (k0, 60, .inl f0)), (e2, .inl (k2, 60, .inl g0))] [(k0, .int), (k2, .char)]) (va_Qi (fun (r u : Int32) => u = r) (fun (r : Int32) (t : State) => (∃ (cl1 : Nat), ∃ (ol1 : Nat), ∃ (j4 : Int32), ∃ (j5 : Int32), ∃ (j6 : Int32), ∃ (j7 : Int32), ∃ (f1 : Nat → Int32), ∃ (g1 : Nat → Int32), r = 1 ∧ cl1 ≤ 60 ∧ ol1 ≤ 60 ∧ po_ (dC, dI) (va_A [(h0, .inr (8, [.ref e0, .int (nI cl), .ref e2, .int (nI ol), .int i4, .int i5, .int i6, .int i7])), (e0, .inl (k0, 60, .inl f0)), (e2, .inl (k2, 60, .inl g0))] sz) [(h0, .inr (8, [.ref e0, .int (nI cl1), .ref e2, .int (nI ol1), .int j4, .int j5, .int j6, .int j7])), (e0, .inl (k0, 60, .inl f1)), (e2, .inl (k2, 60, .inl g1))] [(k0, .int), (k2, .char)] t) ∨ (∃ (cl1 : Nat), ∃ (ol1 : Nat), ∃ (j4 : Int32), ∃ (j5 : Int32), ∃ (j6 : Int32), ∃ (j7 : Int32), ∃ (f1 : Nat → Int32), ∃ (g1 : Nat → Int32), r = 0 ∧ cl1 ≤ 60 ∧ ol1 ≤ 60 ∧ po_ (dC, dI) (va_A [(h0, .inr (8, [.ref e0, .int (nI cl), .ref e2, .int (nI ol), .int i4, .int i5, .int i6, .int i7])), (e0, .inl (k0, 60, .inl f0)), (e2, .inl (k2, 60, .inl g0))] sz) [(h0, .inr (8, [.ref e0, .int (nI cl1), .ref e2, .int (nI ol1), .int j4, .int j5, .int j6, .int j7])), (e0, .inl (k0, 60, .inl f1)), (e2, .inl (k2, 60, .inl g1))] [(k0, .int), (k2, .char)] t)) (va_A [(h0, .inr (8, [.ref e0, .int (nI cl), .ref e2, .int (nI ol), .int i4, .int i5, .int i6, .int i7])), (e0, .inl (k0, 60, .inl f0)), (e2, .inl (k2, 60, .inl g0))] sz)) 0 0 (va_A [(h0, .inr (8, [.ref e0, .int (nI cl), .ref e2, .int (nI ol), .int i4, .int i5, .int i6, .int i7])), (e0, .inl (k0, 60, .inl f0)), (e2, .inl (k2, 60, .inl g0))] sz) := by
  refine Met.ofW (cc := cX8_closesBracket) (maxL := 1) (ret := (some .boolean)) (by decide) rfl ?_
  intro p e s m args below meth c s₁ B hml hv
  obtain ⟨rfl, hsz, hP, hK, hD0, hM⟩ := hv
  have hx := B.exec
  have hb := B.bytes
  have hr := B.returns
  have hts := atoms_spec (ws := wm_o_r_closesBracket) B.pre
  have hown : s.vm.findClass RX8 = some m.cls := findClass_of_methodNamed B.named
  have hlocks := B.notSynchronized
  subst hsz
  have hD := hD0.self (sz := s.heap.size)
  generalize hAe : va_A [(h0, .inr (8, [.ref e0, .int (nI cl), .ref e2, .int (nI ol), .int i4, .int i5, .int i6, .int i7])), (e0, .inl (k0, 60, .inl f0)), (e2, .inl (k2, 60, .inl g0))] s.heap.size = A at hD hM ⊢
  have hA : ∀ q : Nat, s.heap.size ≤ q → A q := fun q h => by rw [← hAe]; exact Or.inr h
  have hS : va_S A s.heap s.heap [] := va_S.rf
  have hP : va_P (dC, dI) vwCl [(h0, .inr (8, [.ref e0, .int (nI cl), .ref e2, .int (nI ol), .int i4, .int i5, .int i6, .int i7])), (e0, .inl (k0, 60, .inl f0)), (e2, .inl (k2, 60, .inl g0))] s.heap := hP
  have hl := lv_entry ([.ref h0]) (n := 1) (Nat.le_of_ble_eq_true rfl)
  rw [lg_entry_eq]
  generalize (lg_sl ([.ref h0]) ++ List.replicate (1 - (lg_sl ([.ref h0])).length) Slot.unset).toArray = ls at hl ⊢
  have hl : lv_has ls 1 [(0, .ref h0)] := hl
  refine lv_aload_n hx hb dX8_closesBracket_0 rfl (lv_at hl 0 rfl) ?_
  refine va_get (D := (dC, dI)) (ci := 8) (v := .int i4) (C := RX8) (T := TX8) (N := 8) hx hb hts (fun _ hh => (List.mem_cons_of_mem _ (List.mem_append_right _ (List.mem_append_left _ hh)))) hown hK hP 0 rfl rfl 4 (by decide) (hts (.fieldLink RX8 26 "TypingPool$Reader" "depth" "I") (List.mem_cons_of_mem _ (List.mem_append_left _ (List.mem_of_getElem? (i := 0) rfl)))) (fun _ h9 => h9) rfl dX8_closesBracket_1 ?_
  refine lv_if_ne (tgt := 9) hx hb dX8_closesBracket_4 (by decide) (fun c_39 => ?_) (fun c_39 => ?_)
  · refine lv_aload_n hx hb dX8_closesBracket_9 rfl (lv_at hl 0 rfl) ?_
    refine lv_iconst (v := 1) hx hb dX8_closesBracket_10 (by decide) ?_
    have hPc := hP.sub (ws' := [(h0, .inr (8, [.ref e0, .int (nI cl), .ref e2, .int (nI ol), .int i4, .int i5, .int i6, .int i7])), (e0, .inl (k0, 60, .inl f0)), (e2, .inl (k2, 60, .inl g0))]) [0, 1, 2] rfl
    have hDc := hD.sub (ws' := [(h0, .inr (8, [.ref e0, .int (nI cl), .ref e2, .int (nI ol), .int i4, .int i5, .int i6, .int i7])), (e0, .inl (k0, 60, .inl f0)), (e2, .inl (k2, 60, .inl g0))]) [0, 1, 2] (by decide) rfl
    have hKc := hK.sub (tys' := [(k0, .int), (k2, .char)]) [0, 1] rfl
    have hFc := va_free (wc := [(h0, .inr (8, [.ref e0, .int (nI cl), .ref e2, .int (nI ol), .int i4, .int i5, .int i6, .int i7])), (e0, .inl (k0, 60, .inl f0)), (e2, .inl (k2, 60, .inl g0))]) hD hS hA [0, 1, 2] rfl
    refine va_callv (va_runV (As := [.int 1]) (rest := []) ⟨hx, hb, hml, hown, hts⟩ (o_r_close l dC dI ad av s.heap.size h0 e0 e2 cl ol k0 k2 f0 g0 i4 i5 i6 i7 1 (by omega) (by omega)) (cwV 1 hts (gi_4 (List.mem_cons_of_mem _ (List.mem_append_left _ (List.mem_of_getElem? (i := 1) rfl))) (List.mem_cons_of_mem _ (List.mem_append_left _ (List.mem_of_getElem? (i := 2) rfl))) (List.mem_cons_of_mem _ (List.mem_append_left _ (List.mem_of_getElem? (i := 3) rfl))) (List.mem_cons_of_mem _ (List.mem_append_left _ (List.mem_of_getElem? (i := 4) rfl))) (fun _ hh => (List.mem_cons_of_mem _ (List.mem_append_right _ (List.mem_append_right _ (List.mem_append_left _ hh))))) gd_o_r_close) rfl rfl rfl (by decide +kernel) ⟨Nat.le_of_ble_eq_true rfl, Nat.le_of_ble_eq_true rfl⟩) ⟨pr_blind, va_recv hKc hPc (ci := 8) (q0 := 0) rfl rfl, pr_use hPc hKc hDc hFc hS hM⟩ rfl rfl hl.1 rfl (lv_room (Nat.le_of_ble_eq_true rfl)) dX8_closesBracket_11 ⟨Nat.le_of_ble_eq_true rfl, Nat.le_of_ble_eq_true rfl⟩) hS (fun q _ h => hFc q h) hFc (fun u t H locs ht hvm hw hB hz1 hk1 hS => ?_)
    refine W.widen (k := 0) (n := 0) (Nat.le_of_ble_eq_true rfl) (Nat.le_of_ble_eq_true rfl) ?_
    obtain ⟨cl_41, ol_42, j_43, j_44, j_45, j_46, f_47, g_48, hf_50, hf_51, hP1, hK1, hD1⟩ := hB
    rw [ht] at hP1
    have hK1 := va_K.moved hvm.symm hK1
    obtain ⟨hP, hD⟩ := va_join (wr := []) (w1 := [(h0, .inr (8, [.ref e0, .int (nI cl_41), .ref e2, .int (nI ol_42), .int j_43, .int j_44, .int j_45, .int j_46])), (e0, .inl (k0, 60, .inl f_47)), (e2, .inl (k2, 60, .inl g_48))]) hP hD [0, 1, 2] [] rfl rfl (by decide) (by decide) hk1 hFc hP1 hD1
    have hK := (hK.sub (tys' := []) [] rfl).app hK1
    have hP : va_P (dC, dI) vwCl [(h0, .inr (8, [.ref e0, .int (nI cl_41), .ref e2, .int (nI ol_42), .int j_43, .int j_44, .int j_45, .int j_46])), (e0, .inl (k0, 60, .inl f_47)), (e2, .inl (k2, 60, .inl g_48))] H := hP
    have hD : va_D A [(h0, .inr (8, [.ref e0, .int (nI cl_41), .ref e2, .int (nI ol_42), .int j_43, .int j_44, .int j_45, .int j_46])), (e0, .inl (k0, 60, .inl f_47)), (e2, .inl (k2, 60, .inl g_48))] := hD
    have hK : va_K (dC, dI) vwCl [(k0, .int), (k2, .char)] s := hK
    refine lv_aload_n hx hb dX8_closesBracket_14 rfl (lv_at hl 0 rfl) ?_
    refine va_get (D := (dC, dI)) (ci := 8) (v := .int (nI ol_42)) (C := RX8) (T := TX8) (N := 8) hx hb hts (fun _ hh => (List.mem_cons_of_mem _ (List.mem_append_right _ (List.mem_append_left _ hh)))) hown hK hP 0 rfl rfl 3 (by decide) (hts (.fieldLink RX8 23 "TypingPool$Reader" "openLength" "I") (List.mem_cons_of_mem _ (List.mem_append_left _ (List.mem_of_getElem? (i := 5) rfl)))) (fun _ h9 => h9) rfl dX8_closesBracket_15 ?_
    refine lv_if_le (tgt := 31) hx hb dX8_closesBracket_18 (by decide) (fun c_52 => ?_) (fun c_52 => ?_)
    · have hn_c_52 := q_le ol_42 0 c_52 rfl rfl (by omega) (by omega)
      refine lv_aload_n hx hb dX8_closesBracket_31 rfl (lv_at hl 0 rfl) ?_
      refine lv_dup hx hb dX8_closesBracket_32 rfl ?_
      refine va_get (D := (dC, dI)) (ci := 8) (v := .int j_43) (C := RX8) (T := TX8) (N := 8) hx hb hts (fun _ hh => (List.mem_cons_of_mem _ (List.mem_append_right _ (List.mem_append_left _ hh)))) hown hK hP 0 rfl rfl 4 (by decide) (hts (.fieldLink RX8 26 "TypingPool$Reader" "depth" "I") (List.mem_cons_of_mem _ (List.mem_append_left _ (List.mem_of_getElem? (i := 0) rfl)))) (fun _ h9 => h9) rfl dX8_closesBracket_33 ?_
      refine lv_iconst (v := 1) hx hb dX8_closesBracket_36 (by decide) ?_
      refine lv_isub hx hb dX8_closesBracket_37 ?_
      refine lv_topi (fun x_53 ex_53 => ?_)
      refine va_put (D := (dC, dI)) (ci := 8) (v := .int x_53) (ty := .int) (C := RX8) (T := TX8) (N := 8) hx hb hts (fun _ hh => (List.mem_cons_of_mem _ (List.mem_append_right _ (List.mem_append_left _ hh)))) tyX8 tyX8_ok nmX8 hown hK hP hD hS 0 rfl rfl 4 (by decide) (hts (.fieldLink RX8 26 "TypingPool$Reader" "depth" "I") (List.mem_cons_of_mem _ (List.mem_append_left _ (List.mem_of_getElem? (i := 0) rfl)))) (fun _ h9 => h9) rfl (tyX8_ok 4 (by decide)) rfl rfl (Nat.le_of_ble_eq_true rfl) dX8_closesBracket_38 (fun H locs hP hD hS => ?_)
      have hP : va_P (dC, dI) vwCl [(h0, .inr (8, [.ref e0, .int (nI cl_41), .ref e2, .int (nI ol_42), .int x_53, .int j_44, .int j_45, .int j_46])), (e0, .inl (k0, 60, .inl f_47)), (e2, .inl (k2, 60, .inl g_48))] H := hP
      have hD : va_D A [(h0, .inr (8, [.ref e0, .int (nI cl_41), .ref e2, .int (nI ol_42), .int x_53, .int j_44, .int j_45, .int j_46])), (e0, .inl (k0, 60, .inl f_47)), (e2, .inl (k2, 60, .inl g_48))] := hD
      refine lv_iconst (v := 1) hx hb dX8_closesBracket_41 (by decide) ?_
      have hP9 := hP.sub (ws' := [(h0, .inr (8, [.ref e0, .int (nI cl_41), .ref e2, .int (nI ol_42), .int x_53, .int j_44, .int j_45, .int j_46])), (e0, .inl (k0, 60, .inl f_47)), (e2, .inl (k2, 60, .inl g_48))]) [0, 1, 2] rfl
      have hD9 := hD.sub (ws' := [(h0, .inr (8, [.ref e0, .int (nI cl_41), .ref e2, .int (nI ol_42), .int x_53, .int j_44, .int j_45, .int j_46])), (e0, .inl (k0, 60, .inl f_47)), (e2, .inl (k2, 60, .inl g_48))]) [0, 1, 2] (by decide) rfl
      have hK9 := hK.sub (tys' := [(k0, .int), (k2, .char)]) [0, 1] rfl
      exact W.zret (v := 1) hx hb hr (by decide) (fun t ht hW => ⟨⟨1, 1, rfl, rfl, Or.inl ⟨cl_41, ol_42, x_53, j_44, j_45, j_46, f_47, g_48, rfl, hf_50, hf_51, by rw [ht]; exact hP9, va_K.moved hW.alike hK9, hD9⟩⟩, hS.F ht⟩) hS.2.2 dX8_closesBracket_42
    · have hn_c_52 := q_nle ol_42 0 c_52 rfl rfl (by omega) (by omega)
      refine lv_aload_n hx hb dX8_closesBracket_21 rfl (lv_at hl 0 rfl) ?_
      refine lv_dup hx hb dX8_closesBracket_22 rfl ?_
      refine va_get (D := (dC, dI)) (ci := 8) (v := .int (nI ol_42)) (C := RX8) (T := TX8) (N := 8) hx hb hts (fun _ hh => (List.mem_cons_of_mem _ (List.mem_append_right _ (List.mem_append_left _ hh)))) hown hK hP 0 rfl rfl 3 (by decide) (hts (.fieldLink RX8 23 "TypingPool$Reader" "openLength" "I") (List.mem_cons_of_mem _ (List.mem_append_left _ (List.mem_of_getElem? (i := 5) rfl)))) (fun _ h9 => h9) rfl dX8_closesBracket_23 ?_
      refine lv_iconst (v := 1) hx hb dX8_closesBracket_26 (by decide) ?_
      refine lv_isub hx hb dX8_closesBracket_27 ?_
      refine lq_top (v := nI (ol_42 - 1)) (pk_sub (a := ol_42) (b := 1) (by omega)) ?_
      refine va_put (D := (dC, dI)) (ci := 8) (v := .int (nI (ol_42 - 1))) (ty := .int) (C := RX8) (T := TX8) (N := 8) hx hb hts (fun _ hh => (List.mem_cons_of_mem _ (List.mem_append_right _ (List.mem_append_left _ hh)))) tyX8 tyX8_ok nmX8 hown hK hP hD hS 0 rfl rfl 3 (by decide) (hts (.fieldLink RX8 23 "TypingPool$Reader" "openLength" "I") (List.mem_cons_of_mem _ (List.mem_append_left _ (List.mem_of_getElem? (i := 5) rfl)))) (fun _ h9 => h9) rfl (tyX8_ok 3 (by decide)) rfl rfl (Nat.le_of_ble_eq_true rfl) dX8_closesBracket_28 (fun H locs hP hD hS => ?_)
      have hP : va_P (dC, dI) vwCl [(h0, .inr (8, [.ref e0, .int (nI cl_41), .ref e2, .int (nI (ol_42 - 1)), .int j_43, .int j_44, .int j_45, .int j_46])), (e0, .inl (k0, 60, .inl f_47)), (e2, .inl (k2, 60, .inl g_48))] H := hP
      have hD : va_D A [(h0, .inr (8, [.ref e0, .int (nI cl_41), .ref e2, .int (nI (ol_42 - 1)), .int j_43, .int j_44, .int j_45, .int j_46])), (e0, .inl (k0, 60, .inl f_47)), (e2, .inl (k2, 60, .inl g_48))] := hD
      refine lv_aload_n hx hb dX8_closesBracket_31 rfl (lv_at hl 0 rfl) ?_
      refine lv_dup hx hb dX8_closesBracket_32 rfl ?_
      refine va_get (D := (dC, dI)) (ci := 8) (v := .int j_43) (C := RX8) (T := TX8) (N := 8) hx hb hts (fun _ hh => (List.mem_cons_of_mem _ (List.mem_append_right _ (List.mem_append_left _ hh)))) hown hK hP 0 rfl rfl 4 (by decide) (hts (.fieldLink RX8 26 "TypingPool$Reader" "depth" "I") (List.mem_cons_of_mem _ (List.mem_append_left _ (List.mem_of_getElem? (i := 0) rfl)))) (fun _ h9 => h9) rfl dX8_closesBracket_33 ?_
      refine lv_iconst (v := 1) hx hb dX8_closesBracket_36 (by decide) ?_
      refine lv_isub hx hb dX8_closesBracket_37 ?_
      refine lv_topi (fun x_54 ex_54 => ?_)
      refine va_put (D := (dC, dI)) (ci := 8) (v := .int x_54) (ty := .int) (C := RX8) (T := TX8) (N := 8) hx hb hts (fun _ hh => (List.mem_cons_of_mem _ (List.mem_append_right _ (List.mem_append_left _ hh)))) tyX8 tyX8_ok nmX8 hown hK hP hD hS 0 rfl rfl 4 (by decide) (hts (.fieldLink RX8 26 "TypingPool$Reader" "depth" "I") (List.mem_cons_of_mem _ (List.mem_append_left _ (List.mem_of_getElem? (i := 0) rfl)))) (fun _ h9 => h9) rfl (tyX8_ok 4 (by decide)) rfl rfl (Nat.le_of_ble_eq_true rfl) dX8_closesBracket_38 (fun H locs hP hD hS => ?_)
      have hP : va_P (dC, dI) vwCl [(h0, .inr (8, [.ref e0, .int (nI cl_41), .ref e2, .int (nI (ol_42 - 1)), .int x_54, .int j_44, .int j_45, .int j_46])), (e0, .inl (k0, 60, .inl f_47)), (e2, .inl (k2, 60, .inl g_48))] H := hP
      have hD : va_D A [(h0, .inr (8, [.ref e0, .int (nI cl_41), .ref e2, .int (nI (ol_42 - 1)), .int x_54, .int j_44, .int j_45, .int j_46])), (e0, .inl (k0, 60, .inl f_47)), (e2, .inl (k2, 60, .inl g_48))] := hD
      refine lv_iconst (v := 1) hx hb dX8_closesBracket_41 (by decide) ?_
      have hP9 := hP.sub (ws' := [(h0, .inr (8, [.ref e0, .int (nI cl_41), .ref e2, .int (nI (ol_42 - 1)), .int x_54, .int j_44, .int j_45, .int j_46])), (e0, .inl (k0, 60, .inl f_47)), (e2, .inl (k2, 60, .inl g_48))]) [0, 1, 2] rfl
      have hD9 := hD.sub (ws' := [(h0, .inr (8, [.ref e0, .int (nI cl_41), .ref e2, .int (nI (ol_42 - 1)), .int x_54, .int j_44, .int j_45, .int j_46])), (e0, .inl (k0, 60, .inl f_47)), (e2, .inl (k2, 60, .inl g_48))]) [0, 1, 2] (by decide) rfl
      have hK9 := hK.sub (tys' := [(k0, .int), (k2, .char)]) [0, 1] rfl
      exact W.zret (v := 1) hx hb hr (by decide) (fun t ht hW => ⟨⟨1, 1, rfl, rfl, Or.inl ⟨cl_41, ol_42 - 1, x_54, j_44, j_45, j_46, f_47, g_48, rfl, hf_50, (by omega), by rw [ht]; exact hP9, va_K.moved hW.alike hK9, hD9⟩⟩, hS.F ht⟩) hS.2.2 dX8_closesBracket_42
  · refine lv_iconst (v := 0) hx hb dX8_closesBracket_7 (by decide) ?_
    have hP9 := hP.sub (ws' := [(h0, .inr (8, [.ref e0, .int (nI cl), .ref e2, .int (nI ol), .int i4, .int i5, .int i6, .int i7])), (e0, .inl (k0, 60, .inl f0)), (e2, .inl (k2, 60, .inl g0))]) [0, 1, 2] rfl
    have hD9 := hD.sub (ws' := [(h0, .inr (8, [.ref e0, .int (nI cl), .ref e2, .int (nI ol), .int i4, .int i5, .int i6, .int i7])), (e0, .inl (k0, 60, .inl f0)), (e2, .inl (k2, 60, .inl g0))]) [0, 1, 2] (by decide) rfl
    have hK9 := hK.sub (tys' := [(k0, .int), (k2, .char)]) [0, 1] rfl
    exact W.zret (v := 0) hx hb hr (by decide) (fun t ht hW => ⟨⟨0, 0, rfl, rfl, Or.inr (⟨cl, ol, i4, i5, i6, i7, f0, g0, rfl, (by omega), (by omega), by rw [ht]; exact hP9, va_K.moved hW.alike hK9, hD9⟩)⟩, hS.F ht⟩) hS.2.2 dX8_closesBracket_8
def wo_o_r_followsThing : List Cond := [.methodLink RX8 69 yX8_isDigit, .static yX8_isDigit, .initialized RX8, .methodLink RX8 79 yX8_goesOnNumber, .instanceMethod yX8_goesOnNumber, .selects RX8 yX8_goesOnNumber yX8_goesOnNumber, .fieldLink RX8 32 "TypingPool$Reader" "digits" "I", .methodLink RX8 86 yX8_binding, .static yX8_binding, .methodLink RX8 53 yX8_close, .instanceMethod yX8_close, .selects RX8 yX8_close yX8_close, .methodLink RX8 75 yX8_keepOpen, .instanceMethod yX8_keepOpen, .selects RX8 yX8_keepOpen yX8_keepOpen, .fieldLink RX8 35 "TypingPool$Reader" "wantsThing" "Z", .fieldLink RX8 29 "TypingPool$Reader" "compared" "I", .fieldLink RX8 26 "TypingPool$Reader" "depth" "I", .methodLink RX8 82 yX8_closesBracket, .instanceMethod yX8_closesBracket, .selects RX8 yX8_closesBracket yX8_closesBracket]
def wm_o_r_followsThing : List Cond := .code yX8_followsThing cX8_followsThing 3 (some .boolean) :: (wo_o_r_followsThing ++ (wm_o_r_isDigit ++ (wm_o_r_goesOnNumber ++ (wsX80 ++ (wm_o_r_binding ++ (wm_o_r_close ++ (wm_o_r_keepOpen ++ (wm_o_r_closesBracket ++ ([] : List Cond)))))))))
theorem gd_o_r_followsThing : ∀ w ∈ wm_o_r_followsThing, goodWord w = true := gd_c rfl (gd_a (by decide) (gd_a gd_o_r_isDigit (gd_a gd_o_r_goesOnNumber (gd_a gd_wsX80 (gd_a gd_o_r_binding (gd_a gd_o_r_close (gd_a gd_o_r_keepOpen (gd_a gd_o_r_closesBracket gd_nil))))))))
set_option maxRecDepth 20000 in
theorem im_o_r_followsThing : ∀ w ∈ wm_o_r_followsThing, w ∈ lw_tbl := im_c (in_r [.code yX8_followsThing cX8_followsThing 3 (some .boolean)] [344] (by decide +kernel)) (in_app (in_r wo_o_r_followsThing [330, 331, 73, 345, 347, 4, 176, 357, 358, 353, 355, 6, 337, 339, 2, 177, 175, 174, 349, 351, 5] (by decide +kernel)) (in_app im_o_r_isDigit (in_app im_o_r_goesOnNumber (in_app im_wsX80 (in_app im_o_r_binding (in_app im_o_r_close (in_app im_o_r_keepOpen (in_app im_o_r_closesBracket im_nil))))))))
set_option maxHeartbeats 4000000 in
set_option maxRecDepth 100000 in
theorem o_r_followsThing (l : Launch) (dC : Nat → ClassId) (dI : Nat → Nat → Nat) (ad av : Nat → Nat) (sz : Nat) (h0 : Nat) (e0 : Nat) (e2 : Nat) (cl : Nat) (ol : Nat) (k0 : ClassId) (k2 : ClassId) (f0 : Nat → Int32) (g0 : Nat → Int32) (i4 : Int32) (i5 : Int32) (i6 : Int32) (i7 : Int32) (p0 : Int32) (hcl : cl ≤ 60) (hol : ol ≤ 60) : Met l yX8_followsThing wm_o_r_followsThing ({ frames := 5, cells := 0, slots := 0, locals := 160 }) (pr_ ad av (dC, dI) sz [.ref h0, .int p0] [(h0, .inr (8, [.ref e0, .int (nI cl), .ref e2, .int (nI ol), .int i4, .int i5, .int i6, .int i7])), (e0, .inl (k0, 60, .inl f0)), (e2, .inl (k2, 60, .inl g0))] [(k0, .int), (k2, .char)]) (va_Qi (fun (r u : Int32) => u = r) (fun (r : Int32) (t : State) => (∃ (cl1 : Nat), ∃ (ol1 : Nat), ∃ (j4 : Int32), ∃ (j5 : Int32), ∃ (j6 : Int32), ∃ (j7 : Int32), ∃ (f1 : Nat → Int32), ∃ (g1 : Nat → Int32), r = 1 ∧ cl1 ≤ 60 ∧ ol1 ≤ 60 ∧ po_ (dC, dI) (va_A [(h0, .inr (8, [.ref e0, .int (nI cl), .ref e2, .int (nI ol), .int i4, .int i5, .int i6, .int i7])), (e0, .inl (k0, 60, .inl f0)), (e2, .inl (k2, 60, .inl g0))] sz) [(h0, .inr (8, [.ref e0, .int (nI cl1), .ref e2, .int (nI ol1), .int j4, .int j5, .int j6, .int j7])), (e0, .inl (k0, 60, .inl f1)), (e2, .inl (k2, 60, .inl g1))] [(k0, .int), (k2, .char)] t) ∨ (∃ (cl1 : Nat), ∃ (ol1 : Nat), ∃ (j4 : Int32), ∃ (j5 : Int32), ∃ (j6 : Int32), ∃ (j7 : Int32), ∃ (f1 : Nat → Int32), ∃ (g1 : Nat → Int32), r = 0 ∧ cl1 ≤ 60 ∧ ol1 ≤ 60 ∧ po_ (dC, dI) (va_A [(h0, .inr (8, [.ref e0, .int (nI cl), .ref e2, .int (nI ol), .int i4, .int i5, .int i6, .int i7])), (e0, .inl (k0, 60, .inl f0)), (e2, .inl (k2, 60, .inl g0))] sz) [(h0, .inr (8, [.ref e0, .int (nI cl1), .ref e2, .int (nI ol1), .int j4, .int j5, .int j6, .int j7])), (e0, .inl (k0, 60, .inl f1)), (e2, .inl (k2, 60, .inl g1))] [(k0, .int), (k2, .char)] t)) (va_A [(h0, .inr (8, [.ref e0, .int (nI cl), .ref e2, .int (nI ol), .int i4, .int i5, .int i6, .int i7])), (e0, .inl (k0, 60, .inl f0)), (e2, .inl (k2, 60, .inl g0))] sz)) 0 0 (va_A [(h0, .inr (8, [.ref e0, .int (nI cl), .ref e2, .int (nI ol), .int i4, .int i5, .int i6, .int i7])), (e0, .inl (k0, 60, .inl f0)), (e2, .inl (k2, 60, .inl g0))] sz) := by
  refine Met.ofW (cc := cX8_followsThing) (maxL := 3) (ret := (some .boolean)) (by decide) rfl ?_
  intro p e s m args below meth c s₁ B hml hv
  obtain ⟨rfl, hsz, hP, hK, hD0, hM⟩ := hv
  have hx := B.exec
  have hb := B.bytes
  have hr := B.returns
  have hts := atoms_spec (ws := wm_o_r_followsThing) B.pre
  have hown : s.vm.findClass RX8 = some m.cls := findClass_of_methodNamed B.named
  have hlocks := B.notSynchronized
  subst hsz
  have hD := hD0.self (sz := s.heap.size)
  generalize hAe : va_A [(h0, .inr (8, [.ref e0, .int (nI cl), .ref e2, .int (nI ol), .int i4, .int i5, .int i6, .int i7])), (e0, .inl (k0, 60, .inl f0)), (e2, .inl (k2, 60, .inl g0))] s.heap.size = A at hD hM ⊢
  have hA : ∀ q : Nat, s.heap.size ≤ q → A q := fun q h => by rw [← hAe]; exact Or.inr h
  have hS : va_S A s.heap s.heap [] := va_S.rf
  have hP : va_P (dC, dI) vwCl [(h0, .inr (8, [.ref e0, .int (nI cl), .ref e2, .int (nI ol), .int i4, .int i5, .int i6, .int i7])), (e0, .inl (k0, 60, .inl f0)), (e2, .inl (k2, 60, .inl g0))] s.heap := hP
  have hl := lv_entry ([.ref h0, .int p0]) (n := 3) (Nat.le_of_ble_eq_true rfl)
  rw [lg_entry_eq]
  generalize (lg_sl ([.ref h0, .int p0]) ++ List.replicate (3 - (lg_sl ([.ref h0, .int p0])).length) Slot.unset).toArray = ls at hl ⊢
  have hl : lv_has ls 3 [(0, .ref h0), (1, .int p0)] := hl
  refine lv_iload_n hx hb dX8_followsThing_0 rfl (lv_at hl 1 rfl) ?_
  have hPc := hP.sub (ws' := []) [] rfl
  have hDc := hD.sub (ws' := []) [] (by decide) rfl
  have hKc := hK.sub (tys' := []) [] rfl
  have hFc := va_free (wc := []) hD hS hA [] rfl
  refine va_calli (va_runS (As := [.int p0]) (rest := []) ⟨hx, hb, hml, hown, hts⟩ (o_r_isDigit l dC dI ad av s.heap.size p0 ) (va_cwS 1 hts (gi_3 (List.mem_cons_of_mem _ (List.mem_append_left _ (List.mem_of_getElem? (i := 0) rfl))) (List.mem_cons_of_mem _ (List.mem_append_left _ (List.mem_of_getElem? (i := 1) rfl))) (List.mem_cons_of_mem _ (List.mem_append_left _ (List.mem_of_getElem? (i := 2) rfl))) (fun _ hh => (List.mem_cons_of_mem _ (List.mem_append_right _ (List.mem_append_left _ hh)))) gd_o_r_isDigit) rfl rfl rfl (by decide +kernel) ⟨Nat.le_of_ble_eq_true rfl, Nat.le_of_ble_eq_true rfl⟩) ⟨pr_blind, pr_use hPc hKc hDc hFc hS hM⟩ rfl rfl hl.1 rfl (lv_room (Nat.le_of_ble_eq_true rfl)) dX8_followsThing_1 ⟨Nat.le_of_ble_eq_true rfl, Nat.le_of_ble_eq_true rfl⟩) hS (fun q _ h => hFc q h) hFc (fun r_118 u t H locs ht hvm hw hB hz1 hk1 hS => ?_)
  refine W.widen (k := 0) (n := 0) (Nat.le_of_ble_eq_true rfl) (Nat.le_of_ble_eq_true rfl) ?_
  subst hw
  rcases hB with ⟨hre_119, hP1, hK1, hD1⟩ | ⟨hre_120, hP1, hK1, hD1⟩
  · refine lq_top (v := 1) hre_119 ?_
    rw [ht] at hP1
    have hK1 := va_K.moved hvm.symm hK1
    obtain ⟨hP, hD⟩ := va_join (wr := [(h0, .inr (8, [.ref e0, .int (nI cl), .ref e2, .int (nI ol), .int i4, .int i5, .int i6, .int i7])), (e0, .inl (k0, 60, .inl f0)), (e2, .inl (k2, 60, .inl g0))]) (w1 := []) hP hD [] [0, 1, 2] rfl rfl (by decide) (by decide) hk1 hFc hP1 hD1
    have hK := (hK.sub (tys' := [(k0, .int), (k2, .char)]) [0, 1] rfl).app hK1
    have hP : va_P (dC, dI) vwCl [(h0, .inr (8, [.ref e0, .int (nI cl), .ref e2, .int (nI ol), .int i4, .int i5, .int i6, .int i7])), (e0, .inl (k0, 60, .inl f0)), (e2, .inl (k2, 60, .inl g0))] H := hP
    have hD : va_D A [(h0, .inr (8, [.ref e0, .int (nI cl), .ref e2, .int (nI ol), .int i4, .int i5, .int i6, .int i7])), (e0, .inl (k0, 60, .inl f0)), (e2, .inl (k2, 60, .inl g0))] := hD
    have hK : va_K (dC, dI) vwCl [(k0, .int), (k2, .char)] s := hK
    refine lv_if_eq (tgt := 13) hx hb dX8_followsThing_4 (by decide) (fun c_121 => absurd c_121 (by decide)) (fun c_121 => ?_)
    refine lv_aload_n hx hb dX8_followsThing_7 rfl (lv_at hl 0 rfl) ?_
    refine lv_iload_n hx hb dX8_followsThing_8 rfl (lv_at hl 1 rfl) ?_
    have hPc := hP.sub (ws' := [(h0, .inr (8, [.ref e0, .int (nI cl), .ref e2, .int (nI ol), .int i4, .int i5, .int i6, .int i7])), (e0, .inl (k0, 60, .inl f0)), (e2, .inl (k2, 60, .inl g0))]) [0, 1, 2] rfl
    have hDc := hD.sub (ws' := [(h0, .inr (8, [.ref e0, .int (nI cl), .ref e2, .int (nI ol), .int i4, .int i5, .int i6, .int i7])), (e0, .inl (k0, 60, .inl f0)), (e2, .inl (k2, 60, .inl g0))]) [0, 1, 2] (by decide) rfl
    have hKc := hK.sub (tys' := [(k0, .int), (k2, .char)]) [0, 1] rfl
    have hFc := va_free (wc := [(h0, .inr (8, [.ref e0, .int (nI cl), .ref e2, .int (nI ol), .int i4, .int i5, .int i6, .int i7])), (e0, .inl (k0, 60, .inl f0)), (e2, .inl (k2, 60, .inl g0))]) hD hS hA [0, 1, 2] rfl
    refine va_calli (va_runV (As := [.int p0]) (rest := []) ⟨hx, hb, hml, hown, hts⟩ (o_r_goesOnNumber l dC dI ad av H.size h0 e0 e2 cl ol k0 k2 f0 g0 i4 i5 i6 i7 p0 (by omega) (by omega)) (cwV 1 hts (gi_4 (List.mem_cons_of_mem _ (List.mem_append_left _ (List.mem_of_getElem? (i := 3) rfl))) (List.mem_cons_of_mem _ (List.mem_append_left _ (List.mem_of_getElem? (i := 4) rfl))) (List.mem_cons_of_mem _ (List.mem_append_left _ (List.mem_of_getElem? (i := 5) rfl))) (List.mem_cons_of_mem _ (List.mem_append_left _ (List.mem_of_getElem? (i := 2) rfl))) (fun _ hh => (List.mem_cons_of_mem _ (List.mem_append_right _ (List.mem_append_right _ (List.mem_append_left _ hh))))) gd_o_r_goesOnNumber) rfl rfl rfl (by decide +kernel) ⟨Nat.le_of_ble_eq_true rfl, Nat.le_of_ble_eq_true rfl⟩) ⟨pr_blind, va_recv hKc hPc (ci := 8) (q0 := 0) rfl rfl, pr_use hPc hKc hDc hFc hS hM⟩ rfl rfl hl.1 rfl (lv_room (Nat.le_of_ble_eq_true rfl)) dX8_followsThing_9 ⟨Nat.le_of_ble_eq_true rfl, Nat.le_of_ble_eq_true rfl⟩) hS (fun q _ h => hFc q h) hFc (fun r_122 u t H locs ht hvm hw hB hz1 hk1 hS => ?_)
    refine W.widen (k := 0) (n := 0) (Nat.le_of_ble_eq_true rfl) (Nat.le_of_ble_eq_true rfl) ?_
    subst hw
    rcases hB with ⟨cl_123, ol_124, j_125, j_126, j_127, j_128, f_129, g_130, hre_131, hf_132, hf_133, hP1, hK1, hD1⟩ | ⟨cl_134, ol_135, j_136, j_137, j_138, j_139, f_140, g_141, hre_142, hf_143, hf_144, hP1, hK1, hD1⟩
    · refine lq_top (v := 1) hre_131 ?_
      rw [ht] at hP1
      have hK1 := va_K.moved hvm.symm hK1
      obtain ⟨hP, hD⟩ := va_join (wr := []) (w1 := [(h0, .inr (8, [.ref e0, .int (nI cl_123), .ref e2, .int (nI ol_124), .int j_125, .int j_126, .int j_127, .int j_128])), (e0, .inl (k0, 60, .inl f_129)), (e2, .inl (k2, 60, .inl g_130))]) hP hD [0, 1, 2] [] rfl rfl (by decide) (by decide) hk1 hFc hP1 hD1
      have hK := (hK.sub (tys' := []) [] rfl).app hK1
      have hP : va_P (dC, dI) vwCl [(h0, .inr (8, [.ref e0, .int (nI cl_123), .ref e2, .int (nI ol_124), .int j_125, .int j_126, .int j_127, .int j_128])), (e0, .inl (k0, 60, .inl f_129)), (e2, .inl (k2, 60, .inl g_130))] H := hP
      have hD : va_D A [(h0, .inr (8, [.ref e0, .int (nI cl_123), .ref e2, .int (nI ol_124), .int j_125, .int j_126, .int j_127, .int j_128])), (e0, .inl (k0, 60, .inl f_129)), (e2, .inl (k2, 60, .inl g_130))] := hD
      have hK : va_K (dC, dI) vwCl [(k0, .int), (k2, .char)] s := hK
      have hP9 := hP.sub (ws' := [(h0, .inr (8, [.ref e0, .int (nI cl_123), .ref e2, .int (nI ol_124), .int j_125, .int j_126, .int j_127, .int j_128])), (e0, .inl (k0, 60, .inl f_129)), (e2, .inl (k2, 60, .inl g_130))]) [0, 1, 2] rfl
      have hD9 := hD.sub (ws' := [(h0, .inr (8, [.ref e0, .int (nI cl_123), .ref e2, .int (nI ol_124), .int j_125, .int j_126, .int j_127, .int j_128])), (e0, .inl (k0, 60, .inl f_129)), (e2, .inl (k2, 60, .inl g_130))]) [0, 1, 2] (by decide) rfl
      have hK9 := hK.sub (tys' := [(k0, .int), (k2, .char)]) [0, 1] rfl
      exact W.zret (v := 1) hx hb hr (by decide) (fun t ht hW => ⟨⟨1, 1, rfl, rfl, Or.inl ⟨cl_123, ol_124, j_125, j_126, j_127, j_128, f_129, g_130, rfl, hf_132, hf_133, by rw [ht]; exact hP9, va_K.moved hW.alike hK9, hD9⟩⟩, hS.F ht⟩) hS.2.2 dX8_followsThing_12
    · refine lq_top (v := 0) hre_142 ?_
      rw [ht] at hP1
      have hK1 := va_K.moved hvm.symm hK1
      obtain ⟨hP, hD⟩ := va_join (wr := []) (w1 := [(h0, .inr (8, [.ref e0, .int (nI cl_134), .ref e2, .int (nI ol_135), .int j_136, .int j_137, .int j_138, .int j_139])), (e0, .inl (k0, 60, .inl f_140)), (e2, .inl (k2, 60, .inl g_141))]) hP hD [0, 1, 2] [] rfl rfl (by decide) (by decide) hk1 hFc hP1 hD1
      have hK := (hK.sub (tys' := []) [] rfl).app hK1
      have hP : va_P (dC, dI) vwCl [(h0, .inr (8, [.ref e0, .int (nI cl_134), .ref e2, .int (nI ol_135), .int j_136, .int j_137, .int j_138, .int j_139])), (e0, .inl (k0, 60, .inl f_140)), (e2, .inl (k2, 60, .inl g_141))] H := hP
      have hD : va_D A [(h0, .inr (8, [.ref e0, .int (nI cl_134), .ref e2, .int (nI ol_135), .int j_136, .int j_137, .int j_138, .int j_139])), (e0, .inl (k0, 60, .inl f_140)), (e2, .inl (k2, 60, .inl g_141))] := hD
      have hK : va_K (dC, dI) vwCl [(k0, .int), (k2, .char)] s := hK
      have hP9 := hP.sub (ws' := [(h0, .inr (8, [.ref e0, .int (nI cl_134), .ref e2, .int (nI ol_135), .int j_136, .int j_137, .int j_138, .int j_139])), (e0, .inl (k0, 60, .inl f_140)), (e2, .inl (k2, 60, .inl g_141))]) [0, 1, 2] rfl
      have hD9 := hD.sub (ws' := [(h0, .inr (8, [.ref e0, .int (nI cl_134), .ref e2, .int (nI ol_135), .int j_136, .int j_137, .int j_138, .int j_139])), (e0, .inl (k0, 60, .inl f_140)), (e2, .inl (k2, 60, .inl g_141))]) [0, 1, 2] (by decide) rfl
      have hK9 := hK.sub (tys' := [(k0, .int), (k2, .char)]) [0, 1] rfl
      exact W.zret (v := 0) hx hb hr (by decide) (fun t ht hW => ⟨⟨0, 0, rfl, rfl, Or.inr (⟨cl_134, ol_135, j_136, j_137, j_138, j_139, f_140, g_141, rfl, hf_143, hf_144, by rw [ht]; exact hP9, va_K.moved hW.alike hK9, hD9⟩)⟩, hS.F ht⟩) hS.2.2 dX8_followsThing_12
  · refine lq_top (v := 0) hre_120 ?_
    rw [ht] at hP1
    have hK1 := va_K.moved hvm.symm hK1
    obtain ⟨hP, hD⟩ := va_join (wr := [(h0, .inr (8, [.ref e0, .int (nI cl), .ref e2, .int (nI ol), .int i4, .int i5, .int i6, .int i7])), (e0, .inl (k0, 60, .inl f0)), (e2, .inl (k2, 60, .inl g0))]) (w1 := []) hP hD [] [0, 1, 2] rfl rfl (by decide) (by decide) hk1 hFc hP1 hD1
    have hK := (hK.sub (tys' := [(k0, .int), (k2, .char)]) [0, 1] rfl).app hK1
    have hP : va_P (dC, dI) vwCl [(h0, .inr (8, [.ref e0, .int (nI cl), .ref e2, .int (nI ol), .int i4, .int i5, .int i6, .int i7])), (e0, .inl (k0, 60, .inl f0)), (e2, .inl (k2, 60, .inl g0))] H := hP
    have hD : va_D A [(h0, .inr (8, [.ref e0, .int (nI cl), .ref e2, .int (nI ol), .int i4, .int i5, .int i6, .int i7])), (e0, .inl (k0, 60, .inl f0)), (e2, .inl (k2, 60, .inl g0))] := hD
    have hK : va_K (dC, dI) vwCl [(k0, .int), (k2, .char)] s := hK
    refine lv_if_eq (tgt := 13) hx hb dX8_followsThing_4 (by decide) (fun c_145 => ?_) (fun c_145 => absurd c_145 (fun z => z (by decide)))
    refine lv_aload_n hx hb dX8_followsThing_13 rfl (lv_at hl 0 rfl) ?_
    refine lv_iconst (v := 0) hx hb dX8_followsThing_14 (by decide) ?_
    refine va_put (D := (dC, dI)) (ci := 8) (v := .int 0) (ty := .int) (C := RX8) (T := TX8) (N := 8) hx hb hts (fun _ hh => (List.mem_cons_of_mem _ (List.mem_append_right _ (List.mem_append_right _ (List.mem_append_right _ (List.mem_append_left _ hh)))))) tyX8 tyX8_ok nmX8 hown hK hP hD hS 0 rfl rfl 6 (by decide) (hts (.fieldLink RX8 32 "TypingPool$Reader" "digits" "I") (List.mem_cons_of_mem _ (List.mem_append_left _ (List.mem_of_getElem? (i := 6) rfl)))) (fun _ h9 => h9) rfl (tyX8_ok 6 (by decide)) rfl rfl (Nat.le_of_ble_eq_true rfl) dX8_followsThing_15 (fun H locs hP hD hS => ?_)
    have hP : va_P (dC, dI) vwCl [(h0, .inr (8, [.ref e0, .int (nI cl), .ref e2, .int (nI ol), .int i4, .int i5, .int 0, .int i7])), (e0, .inl (k0, 60, .inl f0)), (e2, .inl (k2, 60, .inl g0))] H := hP
    have hD : va_D A [(h0, .inr (8, [.ref e0, .int (nI cl), .ref e2, .int (nI ol), .int i4, .int i5, .int 0, .int i7])), (e0, .inl (k0, 60, .inl f0)), (e2, .inl (k2, 60, .inl g0))] := hD
    refine lv_iload_n hx hb dX8_followsThing_18 rfl (lv_at hl 1 rfl) ?_
    refine lv_bipush (v := 41) hx hb dX8_followsThing_19 (by decide) ?_
    refine lv_icmp_ne (tgt := 29) hx hb dX8_followsThing_21 (by decide) (fun c_146 => ?_) (fun c_146 => ?_)
    · refine lv_iload_n hx hb dX8_followsThing_29 rfl (lv_at hl 1 rfl) ?_
      have hPc := hP.sub (ws' := []) [] rfl
      have hDc := hD.sub (ws' := []) [] (by decide) rfl
      have hKc := hK.sub (tys' := []) [] rfl
      have hFc := va_free (wc := []) hD hS hA [] rfl
      refine va_calli (va_runS (As := [.int p0]) (rest := []) ⟨hx, hb, hml, hown, hts⟩ (o_r_binding l dC dI ad av H.size p0 ) (va_cwS 1 hts (gi_3 (List.mem_cons_of_mem _ (List.mem_append_left _ (List.mem_of_getElem? (i := 7) rfl))) (List.mem_cons_of_mem _ (List.mem_append_left _ (List.mem_of_getElem? (i := 8) rfl))) (List.mem_cons_of_mem _ (List.mem_append_left _ (List.mem_of_getElem? (i := 2) rfl))) (fun _ hh => (List.mem_cons_of_mem _ (List.mem_append_right _ (List.mem_append_right _ (List.mem_append_right _ (List.mem_append_right _ (List.mem_append_left _ hh))))))) gd_o_r_binding) rfl rfl rfl (by decide +kernel) ⟨Nat.le_of_ble_eq_true rfl, Nat.le_of_ble_eq_true rfl⟩) ⟨pr_blind, pr_use hPc hKc hDc hFc hS hM⟩ rfl rfl hl.1 rfl (lv_room (Nat.le_of_ble_eq_true rfl)) dX8_followsThing_30 ⟨Nat.le_of_ble_eq_true rfl, Nat.le_of_ble_eq_true rfl⟩) hS (fun q _ h => hFc q h) hFc (fun r_147 u t H locs ht hvm hw hB hz1 hk1 hS => ?_)
      refine W.widen (k := 0) (n := 0) (Nat.le_of_ble_eq_true rfl) (Nat.le_of_ble_eq_true rfl) ?_
      subst hw
      obtain ⟨r_148, hre_149, hP1, hK1, hD1⟩ := hB
      refine lq_top (v := r_148) hre_149 ?_
      rw [ht] at hP1
      have hK1 := va_K.moved hvm.symm hK1
      obtain ⟨hP, hD⟩ := va_join (wr := [(h0, .inr (8, [.ref e0, .int (nI cl), .ref e2, .int (nI ol), .int i4, .int i5, .int 0, .int i7])), (e0, .inl (k0, 60, .inl f0)), (e2, .inl (k2, 60, .inl g0))]) (w1 := []) hP hD [] [0, 1, 2] rfl rfl (by decide) (by decide) hk1 hFc hP1 hD1
      have hK := (hK.sub (tys' := [(k0, .int), (k2, .char)]) [0, 1] rfl).app hK1
      have hP : va_P (dC, dI) vwCl [(h0, .inr (8, [.ref e0, .int (nI cl), .ref e2, .int (nI ol), .int i4, .int i5, .int 0, .int i7])), (e0, .inl (k0, 60, .inl f0)), (e2, .inl (k2, 60, .inl g0))] H := hP
      have hD : va_D A [(h0, .inr (8, [.ref e0, .int (nI cl), .ref e2, .int (nI ol), .int i4, .int i5, .int 0, .int i7])), (e0, .inl (k0, 60, .inl f0)), (e2, .inl (k2, 60, .inl g0))] := hD
      have hK : va_K (dC, dI) vwCl [(k0, .int), (k2, .char)] s := hK
      refine lv_istore_n (lv' := [(2, .int r_148), (0, .ref h0), (1, .int p0)]) hx hb dX8_followsThing_33 rfl hl (by decide) rfl (fun ls hl => ?_)
      refine lv_iload_n hx hb dX8_followsThing_34 rfl (lv_at hl 0 rfl) ?_
      refine lv_if_eq (tgt := 44) hx hb dX8_followsThing_35 (by decide) (fun c_150 => ?_) (fun c_150 => ?_)
      · refine lv_iconst (v := 0) hx hb dX8_followsThing_44 (by decide) ?_
        have hP9 := hP.sub (ws' := [(h0, .inr (8, [.ref e0, .int (nI cl), .ref e2, .int (nI ol), .int i4, .int i5, .int 0, .int i7])), (e0, .inl (k0, 60, .inl f0)), (e2, .inl (k2, 60, .inl g0))]) [0, 1, 2] rfl
        have hD9 := hD.sub (ws' := [(h0, .inr (8, [.ref e0, .int (nI cl), .ref e2, .int (nI ol), .int i4, .int i5, .int 0, .int i7])), (e0, .inl (k0, 60, .inl f0)), (e2, .inl (k2, 60, .inl g0))]) [0, 1, 2] (by decide) rfl
        have hK9 := hK.sub (tys' := [(k0, .int), (k2, .char)]) [0, 1] rfl
        exact W.zret (v := 0) hx hb hr (by decide) (fun t ht hW => ⟨⟨0, 0, rfl, rfl, Or.inr (⟨cl, ol, i4, i5, 0, i7, f0, g0, rfl, (by omega), (by omega), by rw [ht]; exact hP9, va_K.moved hW.alike hK9, hD9⟩)⟩, hS.F ht⟩) hS.2.2 dX8_followsThing_45
      · refine lv_iload_n hx hb dX8_followsThing_38 rfl (lv_at hl 0 rfl) ?_
        refine lv_bipush (v := 6) hx hb dX8_followsThing_39 (by decide) ?_
        refine lv_icmp_ne (tgt := 46) hx hb dX8_followsThing_41 (by decide) (fun c_151 => ?_) (fun c_151 => ?_)
        · refine lv_iload_n hx hb dX8_followsThing_46 rfl (lv_at hl 0 rfl) ?_
          refine lv_iconst (v := 3) hx hb dX8_followsThing_47 (by decide) ?_
          refine lv_icmp_ne (tgt := 86) hx hb dX8_followsThing_48 (by decide) (fun c_152 => ?_) (fun c_152 => ?_)
          · refine lv_iload_n hx hb dX8_followsThing_86 rfl (lv_at hl 0 rfl) ?_
            refine lv_iconst (v := 3) hx hb dX8_followsThing_87 (by decide) ?_
            refine lv_icmp_ge (tgt := 108) hx hb dX8_followsThing_88 (by decide) (fun c_153 => ?_) (fun c_153 => ?_)
            · refine lv_aload_n hx hb dX8_followsThing_108 rfl (lv_at hl 1 rfl) ?_
              refine lv_iload_n hx hb dX8_followsThing_109 rfl (lv_at hl 0 rfl) ?_
              have hPc := hP.sub (ws' := [(h0, .inr (8, [.ref e0, .int (nI cl), .ref e2, .int (nI ol), .int i4, .int i5, .int 0, .int i7])), (e0, .inl (k0, 60, .inl f0)), (e2, .inl (k2, 60, .inl g0))]) [0, 1, 2] rfl
              have hDc := hD.sub (ws' := [(h0, .inr (8, [.ref e0, .int (nI cl), .ref e2, .int (nI ol), .int i4, .int i5, .int 0, .int i7])), (e0, .inl (k0, 60, .inl f0)), (e2, .inl (k2, 60, .inl g0))]) [0, 1, 2] (by decide) rfl
              have hKc := hK.sub (tys' := [(k0, .int), (k2, .char)]) [0, 1] rfl
              have hFc := va_free (wc := [(h0, .inr (8, [.ref e0, .int (nI cl), .ref e2, .int (nI ol), .int i4, .int i5, .int 0, .int i7])), (e0, .inl (k0, 60, .inl f0)), (e2, .inl (k2, 60, .inl g0))]) hD hS hA [0, 1, 2] rfl
              refine va_callv (va_runV (As := [.int r_148]) (rest := []) ⟨hx, hb, hml, hown, hts⟩ (o_r_close l dC dI ad av H.size h0 e0 e2 cl ol k0 k2 f0 g0 i4 i5 0 i7 r_148 (by omega) (by omega)) (cwV 1 hts (gi_4 (List.mem_cons_of_mem _ (List.mem_append_left _ (List.mem_of_getElem? (i := 9) rfl))) (List.mem_cons_of_mem _ (List.mem_append_left _ (List.mem_of_getElem? (i := 10) rfl))) (List.mem_cons_of_mem _ (List.mem_append_left _ (List.mem_of_getElem? (i := 11) rfl))) (List.mem_cons_of_mem _ (List.mem_append_left _ (List.mem_of_getElem? (i := 2) rfl))) (fun _ hh => (List.mem_cons_of_mem _ (List.mem_append_right _ (List.mem_append_right _ (List.mem_append_right _ (List.mem_append_right _ (List.mem_append_right _ (List.mem_append_left _ hh)))))))) gd_o_r_close) rfl rfl rfl (by decide +kernel) ⟨Nat.le_of_ble_eq_true rfl, Nat.le_of_ble_eq_true rfl⟩) ⟨pr_blind, va_recv hKc hPc (ci := 8) (q0 := 0) rfl rfl, pr_use hPc hKc hDc hFc hS hM⟩ rfl rfl hl.1 rfl (lv_room (Nat.le_of_ble_eq_true rfl)) dX8_followsThing_110 ⟨Nat.le_of_ble_eq_true rfl, Nat.le_of_ble_eq_true rfl⟩) hS (fun q _ h => hFc q h) hFc (fun u t H locs ht hvm hw hB hz1 hk1 hS => ?_)
              refine W.widen (k := 0) (n := 0) (Nat.le_of_ble_eq_true rfl) (Nat.le_of_ble_eq_true rfl) ?_
              obtain ⟨cl_155, ol_156, j_157, j_158, j_159, j_160, f_161, g_162, hf_164, hf_165, hP1, hK1, hD1⟩ := hB
              rw [ht] at hP1
              have hK1 := va_K.moved hvm.symm hK1
              obtain ⟨hP, hD⟩ := va_join (wr := []) (w1 := [(h0, .inr (8, [.ref e0, .int (nI cl_155), .ref e2, .int (nI ol_156), .int j_157, .int j_158, .int j_159, .int j_160])), (e0, .inl (k0, 60, .inl f_161)), (e2, .inl (k2, 60, .inl g_162))]) hP hD [0, 1, 2] [] rfl rfl (by decide) (by decide) hk1 hFc hP1 hD1
              have hK := (hK.sub (tys' := []) [] rfl).app hK1
              have hP : va_P (dC, dI) vwCl [(h0, .inr (8, [.ref e0, .int (nI cl_155), .ref e2, .int (nI ol_156), .int j_157, .int j_158, .int j_159, .int j_160])), (e0, .inl (k0, 60, .inl f_161)), (e2, .inl (k2, 60, .inl g_162))] H := hP
              have hD : va_D A [(h0, .inr (8, [.ref e0, .int (nI cl_155), .ref e2, .int (nI ol_156), .int j_157, .int j_158, .int j_159, .int j_160])), (e0, .inl (k0, 60, .inl f_161)), (e2, .inl (k2, 60, .inl g_162))] := hD
              have hK : va_K (dC, dI) vwCl [(k0, .int), (k2, .char)] s := hK
              refine lv_aload_n hx hb dX8_followsThing_113 rfl (lv_at hl 1 rfl) ?_
              refine lv_iload_n hx hb dX8_followsThing_114 rfl (lv_at hl 2 rfl) ?_
              have hPc := hP.sub (ws' := [(h0, .inr (8, [.ref e0, .int (nI cl_155), .ref e2, .int (nI ol_156), .int j_157, .int j_158, .int j_159, .int j_160])), (e0, .inl (k0, 60, .inl f_161)), (e2, .inl (k2, 60, .inl g_162))]) [0, 1, 2] rfl
              have hDc := hD.sub (ws' := [(h0, .inr (8, [.ref e0, .int (nI cl_155), .ref e2, .int (nI ol_156), .int j_157, .int j_158, .int j_159, .int j_160])), (e0, .inl (k0, 60, .inl f_161)), (e2, .inl (k2, 60, .inl g_162))]) [0, 1, 2] (by decide) rfl
              have hKc := hK.sub (tys' := [(k0, .int), (k2, .char)]) [0, 1] rfl
              have hFc := va_free (wc := [(h0, .inr (8, [.ref e0, .int (nI cl_155), .ref e2, .int (nI ol_156), .int j_157, .int j_158, .int j_159, .int j_160])), (e0, .inl (k0, 60, .inl f_161)), (e2, .inl (k2, 60, .inl g_162))]) hD hS hA [0, 1, 2] rfl
              refine va_callv (va_runV (As := [.int p0]) (rest := []) ⟨hx, hb, hml, hown, hts⟩ (o_r_keepOpen l dC dI ad av H.size h0 e0 e2 cl_155 ol_156 k0 k2 f_161 g_162 j_157 j_158 j_159 j_160 p0 hf_164 hf_165) (cwV 1 hts (gi_4 (List.mem_cons_of_mem _ (List.mem_append_left _ (List.mem_of_getElem? (i := 12) rfl))) (List.mem_cons_of_mem _ (List.mem_append_left _ (List.mem_of_getElem? (i := 13) rfl))) (List.mem_cons_of_mem _ (List.mem_append_left _ (List.mem_of_getElem? (i := 14) rfl))) (List.mem_cons_of_mem _ (List.mem_append_left _ (List.mem_of_getElem? (i := 2) rfl))) (fun _ hh => (List.mem_cons_of_mem _ (List.mem_append_right _ (List.mem_append_right _ (List.mem_append_right _ (List.mem_append_right _ (List.mem_append_right _ (List.mem_append_right _ (List.mem_append_left _ hh))))))))) gd_o_r_keepOpen) rfl rfl rfl (by decide +kernel) ⟨Nat.le_of_ble_eq_true rfl, Nat.le_of_ble_eq_true rfl⟩) ⟨pr_blind, va_recv hKc hPc (ci := 8) (q0 := 0) rfl rfl, pr_use hPc hKc hDc hFc hS hM⟩ rfl rfl hl.1 rfl (lv_room (Nat.le_of_ble_eq_true rfl)) dX8_followsThing_115 ⟨Nat.le_of_ble_eq_true rfl, Nat.le_of_ble_eq_true rfl⟩) hS (fun q _ h => hFc q h) hFc (fun u t H locs ht hvm hw hB hz1 hk1 hS => ?_)
              refine W.widen (k := 0) (n := 0) (Nat.le_of_ble_eq_true rfl) (Nat.le_of_ble_eq_true rfl) ?_
              obtain ⟨ol_167, g_168, hf_170, hP1, hK1, hD1⟩ := hB
              rw [ht] at hP1
              have hK1 := va_K.moved hvm.symm hK1
              obtain ⟨hP, hD⟩ := va_join (wr := []) (w1 := [(h0, .inr (8, [.ref e0, .int (nI cl_155), .ref e2, .int (nI ol_167), .int j_157, .int j_158, .int j_159, .int j_160])), (e0, .inl (k0, 60, .inl f_161)), (e2, .inl (k2, 60, .inl g_168))]) hP hD [0, 1, 2] [] rfl rfl (by decide) (by decide) hk1 hFc hP1 hD1
              have hK := (hK.sub (tys' := []) [] rfl).app hK1
              have hP : va_P (dC, dI) vwCl [(h0, .inr (8, [.ref e0, .int (nI cl_155), .ref e2, .int (nI ol_167), .int j_157, .int j_158, .int j_159, .int j_160])), (e0, .inl (k0, 60, .inl f_161)), (e2, .inl (k2, 60, .inl g_168))] H := hP
              have hD : va_D A [(h0, .inr (8, [.ref e0, .int (nI cl_155), .ref e2, .int (nI ol_167), .int j_157, .int j_158, .int j_159, .int j_160])), (e0, .inl (k0, 60, .inl f_161)), (e2, .inl (k2, 60, .inl g_168))] := hD
              have hK : va_K (dC, dI) vwCl [(k0, .int), (k2, .char)] s := hK
              refine lv_aload_n hx hb dX8_followsThing_118 rfl (lv_at hl 1 rfl) ?_
              refine lv_iconst (v := 1) hx hb dX8_followsThing_119 (by decide) ?_
              refine va_put (D := (dC, dI)) (ci := 8) (v := .int 1) (ty := .boolean) (C := RX8) (T := TX8) (N := 8) hx hb hts (fun _ hh => (List.mem_cons_of_mem _ (List.mem_append_right _ (List.mem_append_right _ (List.mem_append_right _ (List.mem_append_left _ hh)))))) tyX8 tyX8_ok nmX8 hown hK hP hD hS 0 rfl rfl 7 (by decide) (hts (.fieldLink RX8 35 "TypingPool$Reader" "wantsThing" "Z") (List.mem_cons_of_mem _ (List.mem_append_left _ (List.mem_of_getElem? (i := 15) rfl)))) (fun _ h9 => h9) rfl (tyX8_ok 7 (by decide)) rfl rfl (Nat.le_of_ble_eq_true rfl) dX8_followsThing_120 (fun H locs hP hD hS => ?_)
              have hP : va_P (dC, dI) vwCl [(h0, .inr (8, [.ref e0, .int (nI cl_155), .ref e2, .int (nI ol_167), .int j_157, .int j_158, .int j_159, .int 1])), (e0, .inl (k0, 60, .inl f_161)), (e2, .inl (k2, 60, .inl g_168))] H := hP
              have hD : va_D A [(h0, .inr (8, [.ref e0, .int (nI cl_155), .ref e2, .int (nI ol_167), .int j_157, .int j_158, .int j_159, .int 1])), (e0, .inl (k0, 60, .inl f_161)), (e2, .inl (k2, 60, .inl g_168))] := hD
              refine lv_iconst (v := 1) hx hb dX8_followsThing_123 (by decide) ?_
              have hP9 := hP.sub (ws' := [(h0, .inr (8, [.ref e0, .int (nI cl_155), .ref e2, .int (nI ol_167), .int j_157, .int j_158, .int j_159, .int 1])), (e0, .inl (k0, 60, .inl f_161)), (e2, .inl (k2, 60, .inl g_168))]) [0, 1, 2] rfl
              have hD9 := hD.sub (ws' := [(h0, .inr (8, [.ref e0, .int (nI cl_155), .ref e2, .int (nI ol_167), .int j_157, .int j_158, .int j_159, .int 1])), (e0, .inl (k0, 60, .inl f_161)), (e2, .inl (k2, 60, .inl g_168))]) [0, 1, 2] (by decide) rfl
              have hK9 := hK.sub (tys' := [(k0, .int), (k2, .char)]) [0, 1] rfl
              exact W.zret (v := 1) hx hb hr (by decide) (fun t ht hW => ⟨⟨1, 1, rfl, rfl, Or.inl ⟨cl_155, ol_167, j_157, j_158, j_159, 1, f_161, g_168, rfl, hf_164, hf_170, by rw [ht]; exact hP9, va_K.moved hW.alike hK9, hD9⟩⟩, hS.F ht⟩) hS.2.2 dX8_followsThing_124
            · refine lv_aload_n hx hb dX8_followsThing_91 rfl (lv_at hl 1 rfl) ?_
              refine lv_dup hx hb dX8_followsThing_92 rfl ?_
              refine va_get (D := (dC, dI)) (ci := 8) (v := .int i5) (C := RX8) (T := TX8) (N := 8) hx hb hts (fun _ hh => (List.mem_cons_of_mem _ (List.mem_append_right _ (List.mem_append_right _ (List.mem_append_right _ (List.mem_append_left _ hh)))))) hown hK hP 0 rfl rfl 5 (by decide) (hts (.fieldLink RX8 29 "TypingPool$Reader" "compared" "I") (List.mem_cons_of_mem _ (List.mem_append_left _ (List.mem_of_getElem? (i := 16) rfl)))) (fun _ h9 => h9) rfl dX8_followsThing_93 ?_
              refine lv_iconst (v := 1) hx hb dX8_followsThing_96 (by decide) ?_
              refine lv_aload_n hx hb dX8_followsThing_97 rfl (lv_at hl 1 rfl) ?_
              refine va_get (D := (dC, dI)) (ci := 8) (v := .int i4) (C := RX8) (T := TX8) (N := 8) hx hb hts (fun _ hh => (List.mem_cons_of_mem _ (List.mem_append_right _ (List.mem_append_right _ (List.mem_append_right _ (List.mem_append_left _ hh)))))) hown hK hP 0 rfl rfl 4 (by decide) (hts (.fieldLink RX8 26 "TypingPool$Reader" "depth" "I") (List.mem_cons_of_mem _ (List.mem_append_left _ (List.mem_of_getElem? (i := 17) rfl)))) (fun _ h9 => h9) rfl dX8_followsThing_98 ?_
              refine lv_ishl hx hb dX8_followsThing_101 ?_
              refine lv_topi (fun x_171 ex_171 => ?_)
              refine lv_iconst (v := (-1)) hx hb dX8_followsThing_102 (by decide) ?_
              refine lv_ixor hx hb dX8_followsThing_103 ?_
              refine lv_topi (fun x_172 ex_172 => ?_)
              refine lv_iand hx hb dX8_followsThing_104 ?_
              refine lv_topi (fun x_173 ex_173 => ?_)
              refine va_put (D := (dC, dI)) (ci := 8) (v := .int x_173) (ty := .int) (C := RX8) (T := TX8) (N := 8) hx hb hts (fun _ hh => (List.mem_cons_of_mem _ (List.mem_append_right _ (List.mem_append_right _ (List.mem_append_right _ (List.mem_append_left _ hh)))))) tyX8 tyX8_ok nmX8 hown hK hP hD hS 0 rfl rfl 5 (by decide) (hts (.fieldLink RX8 29 "TypingPool$Reader" "compared" "I") (List.mem_cons_of_mem _ (List.mem_append_left _ (List.mem_of_getElem? (i := 16) rfl)))) (fun _ h9 => h9) rfl (tyX8_ok 5 (by decide)) rfl rfl (Nat.le_of_ble_eq_true rfl) dX8_followsThing_105 (fun H locs hP hD hS => ?_)
              have hP : va_P (dC, dI) vwCl [(h0, .inr (8, [.ref e0, .int (nI cl), .ref e2, .int (nI ol), .int i4, .int x_173, .int 0, .int i7])), (e0, .inl (k0, 60, .inl f0)), (e2, .inl (k2, 60, .inl g0))] H := hP
              have hD : va_D A [(h0, .inr (8, [.ref e0, .int (nI cl), .ref e2, .int (nI ol), .int i4, .int x_173, .int 0, .int i7])), (e0, .inl (k0, 60, .inl f0)), (e2, .inl (k2, 60, .inl g0))] := hD
              refine lv_aload_n hx hb dX8_followsThing_108 rfl (lv_at hl 1 rfl) ?_
              refine lv_iload_n hx hb dX8_followsThing_109 rfl (lv_at hl 0 rfl) ?_
              have hPc := hP.sub (ws' := [(h0, .inr (8, [.ref e0, .int (nI cl), .ref e2, .int (nI ol), .int i4, .int x_173, .int 0, .int i7])), (e0, .inl (k0, 60, .inl f0)), (e2, .inl (k2, 60, .inl g0))]) [0, 1, 2] rfl
              have hDc := hD.sub (ws' := [(h0, .inr (8, [.ref e0, .int (nI cl), .ref e2, .int (nI ol), .int i4, .int x_173, .int 0, .int i7])), (e0, .inl (k0, 60, .inl f0)), (e2, .inl (k2, 60, .inl g0))]) [0, 1, 2] (by decide) rfl
              have hKc := hK.sub (tys' := [(k0, .int), (k2, .char)]) [0, 1] rfl
              have hFc := va_free (wc := [(h0, .inr (8, [.ref e0, .int (nI cl), .ref e2, .int (nI ol), .int i4, .int x_173, .int 0, .int i7])), (e0, .inl (k0, 60, .inl f0)), (e2, .inl (k2, 60, .inl g0))]) hD hS hA [0, 1, 2] rfl
              refine va_callv (va_runV (As := [.int r_148]) (rest := []) ⟨hx, hb, hml, hown, hts⟩ (o_r_close l dC dI ad av H.size h0 e0 e2 cl ol k0 k2 f0 g0 i4 x_173 0 i7 r_148 (by omega) (by omega)) (cwV 1 hts (gi_4 (List.mem_cons_of_mem _ (List.mem_append_left _ (List.mem_of_getElem? (i := 9) rfl))) (List.mem_cons_of_mem _ (List.mem_append_left _ (List.mem_of_getElem? (i := 10) rfl))) (List.mem_cons_of_mem _ (List.mem_append_left _ (List.mem_of_getElem? (i := 11) rfl))) (List.mem_cons_of_mem _ (List.mem_append_left _ (List.mem_of_getElem? (i := 2) rfl))) (fun _ hh => (List.mem_cons_of_mem _ (List.mem_append_right _ (List.mem_append_right _ (List.mem_append_right _ (List.mem_append_right _ (List.mem_append_right _ (List.mem_append_left _ hh)))))))) gd_o_r_close) rfl rfl rfl (by decide +kernel) ⟨Nat.le_of_ble_eq_true rfl, Nat.le_of_ble_eq_true rfl⟩) ⟨pr_blind, va_recv hKc hPc (ci := 8) (q0 := 0) rfl rfl, pr_use hPc hKc hDc hFc hS hM⟩ rfl rfl hl.1 rfl (lv_room (Nat.le_of_ble_eq_true rfl)) dX8_followsThing_110 ⟨Nat.le_of_ble_eq_true rfl, Nat.le_of_ble_eq_true rfl⟩) hS (fun q _ h => hFc q h) hFc (fun u t H locs ht hvm hw hB hz1 hk1 hS => ?_)
              refine W.widen (k := 0) (n := 0) (Nat.le_of_ble_eq_true rfl) (Nat.le_of_ble_eq_true rfl) ?_
              obtain ⟨cl_175, ol_176, j_177, j_178, j_179, j_180, f_181, g_182, hf_184, hf_185, hP1, hK1, hD1⟩ := hB
              rw [ht] at hP1
              have hK1 := va_K.moved hvm.symm hK1
              obtain ⟨hP, hD⟩ := va_join (wr := []) (w1 := [(h0, .inr (8, [.ref e0, .int (nI cl_175), .ref e2, .int (nI ol_176), .int j_177, .int j_178, .int j_179, .int j_180])), (e0, .inl (k0, 60, .inl f_181)), (e2, .inl (k2, 60, .inl g_182))]) hP hD [0, 1, 2] [] rfl rfl (by decide) (by decide) hk1 hFc hP1 hD1
              have hK := (hK.sub (tys' := []) [] rfl).app hK1
              have hP : va_P (dC, dI) vwCl [(h0, .inr (8, [.ref e0, .int (nI cl_175), .ref e2, .int (nI ol_176), .int j_177, .int j_178, .int j_179, .int j_180])), (e0, .inl (k0, 60, .inl f_181)), (e2, .inl (k2, 60, .inl g_182))] H := hP
              have hD : va_D A [(h0, .inr (8, [.ref e0, .int (nI cl_175), .ref e2, .int (nI ol_176), .int j_177, .int j_178, .int j_179, .int j_180])), (e0, .inl (k0, 60, .inl f_181)), (e2, .inl (k2, 60, .inl g_182))] := hD
              have hK : va_K (dC, dI) vwCl [(k0, .int), (k2, .char)] s := hK
              refine lv_aload_n hx hb dX8_followsThing_113 rfl (lv_at hl 1 rfl) ?_
              refine lv_iload_n hx hb dX8_followsThing_114 rfl (lv_at hl 2 rfl) ?_
              have hPc := hP.sub (ws' := [(h0, .inr (8, [.ref e0, .int (nI cl_175), .ref e2, .int (nI ol_176), .int j_177, .int j_178, .int j_179, .int j_180])), (e0, .inl (k0, 60, .inl f_181)), (e2, .inl (k2, 60, .inl g_182))]) [0, 1, 2] rfl
              have hDc := hD.sub (ws' := [(h0, .inr (8, [.ref e0, .int (nI cl_175), .ref e2, .int (nI ol_176), .int j_177, .int j_178, .int j_179, .int j_180])), (e0, .inl (k0, 60, .inl f_181)), (e2, .inl (k2, 60, .inl g_182))]) [0, 1, 2] (by decide) rfl
              have hKc := hK.sub (tys' := [(k0, .int), (k2, .char)]) [0, 1] rfl
              have hFc := va_free (wc := [(h0, .inr (8, [.ref e0, .int (nI cl_175), .ref e2, .int (nI ol_176), .int j_177, .int j_178, .int j_179, .int j_180])), (e0, .inl (k0, 60, .inl f_181)), (e2, .inl (k2, 60, .inl g_182))]) hD hS hA [0, 1, 2] rfl
              refine va_callv (va_runV (As := [.int p0]) (rest := []) ⟨hx, hb, hml, hown, hts⟩ (o_r_keepOpen l dC dI ad av H.size h0 e0 e2 cl_175 ol_176 k0 k2 f_181 g_182 j_177 j_178 j_179 j_180 p0 hf_184 hf_185) (cwV 1 hts (gi_4 (List.mem_cons_of_mem _ (List.mem_append_left _ (List.mem_of_getElem? (i := 12) rfl))) (List.mem_cons_of_mem _ (List.mem_append_left _ (List.mem_of_getElem? (i := 13) rfl))) (List.mem_cons_of_mem _ (List.mem_append_left _ (List.mem_of_getElem? (i := 14) rfl))) (List.mem_cons_of_mem _ (List.mem_append_left _ (List.mem_of_getElem? (i := 2) rfl))) (fun _ hh => (List.mem_cons_of_mem _ (List.mem_append_right _ (List.mem_append_right _ (List.mem_append_right _ (List.mem_append_right _ (List.mem_append_right _ (List.mem_append_right _ (List.mem_append_left _ hh))))))))) gd_o_r_keepOpen) rfl rfl rfl (by decide +kernel) ⟨Nat.le_of_ble_eq_true rfl, Nat.le_of_ble_eq_true rfl⟩) ⟨pr_blind, va_recv hKc hPc (ci := 8) (q0 := 0) rfl rfl, pr_use hPc hKc hDc hFc hS hM⟩ rfl rfl hl.1 rfl (lv_room (Nat.le_of_ble_eq_true rfl)) dX8_followsThing_115 ⟨Nat.le_of_ble_eq_true rfl, Nat.le_of_ble_eq_true rfl⟩) hS (fun q _ h => hFc q h) hFc (fun u t H locs ht hvm hw hB hz1 hk1 hS => ?_)
              refine W.widen (k := 0) (n := 0) (Nat.le_of_ble_eq_true rfl) (Nat.le_of_ble_eq_true rfl) ?_
              obtain ⟨ol_187, g_188, hf_190, hP1, hK1, hD1⟩ := hB
              rw [ht] at hP1
              have hK1 := va_K.moved hvm.symm hK1
              obtain ⟨hP, hD⟩ := va_join (wr := []) (w1 := [(h0, .inr (8, [.ref e0, .int (nI cl_175), .ref e2, .int (nI ol_187), .int j_177, .int j_178, .int j_179, .int j_180])), (e0, .inl (k0, 60, .inl f_181)), (e2, .inl (k2, 60, .inl g_188))]) hP hD [0, 1, 2] [] rfl rfl (by decide) (by decide) hk1 hFc hP1 hD1
              have hK := (hK.sub (tys' := []) [] rfl).app hK1
              have hP : va_P (dC, dI) vwCl [(h0, .inr (8, [.ref e0, .int (nI cl_175), .ref e2, .int (nI ol_187), .int j_177, .int j_178, .int j_179, .int j_180])), (e0, .inl (k0, 60, .inl f_181)), (e2, .inl (k2, 60, .inl g_188))] H := hP
              have hD : va_D A [(h0, .inr (8, [.ref e0, .int (nI cl_175), .ref e2, .int (nI ol_187), .int j_177, .int j_178, .int j_179, .int j_180])), (e0, .inl (k0, 60, .inl f_181)), (e2, .inl (k2, 60, .inl g_188))] := hD
              have hK : va_K (dC, dI) vwCl [(k0, .int), (k2, .char)] s := hK
              refine lv_aload_n hx hb dX8_followsThing_118 rfl (lv_at hl 1 rfl) ?_
              refine lv_iconst (v := 1) hx hb dX8_followsThing_119 (by decide) ?_
              refine va_put (D := (dC, dI)) (ci := 8) (v := .int 1) (ty := .boolean) (C := RX8) (T := TX8) (N := 8) hx hb hts (fun _ hh => (List.mem_cons_of_mem _ (List.mem_append_right _ (List.mem_append_right _ (List.mem_append_right _ (List.mem_append_left _ hh)))))) tyX8 tyX8_ok nmX8 hown hK hP hD hS 0 rfl rfl 7 (by decide) (hts (.fieldLink RX8 35 "TypingPool$Reader" "wantsThing" "Z") (List.mem_cons_of_mem _ (List.mem_append_left _ (List.mem_of_getElem? (i := 15) rfl)))) (fun _ h9 => h9) rfl (tyX8_ok 7 (by decide)) rfl rfl (Nat.le_of_ble_eq_true rfl) dX8_followsThing_120 (fun H locs hP hD hS => ?_)
              have hP : va_P (dC, dI) vwCl [(h0, .inr (8, [.ref e0, .int (nI cl_175), .ref e2, .int (nI ol_187), .int j_177, .int j_178, .int j_179, .int 1])), (e0, .inl (k0, 60, .inl f_181)), (e2, .inl (k2, 60, .inl g_188))] H := hP
              have hD : va_D A [(h0, .inr (8, [.ref e0, .int (nI cl_175), .ref e2, .int (nI ol_187), .int j_177, .int j_178, .int j_179, .int 1])), (e0, .inl (k0, 60, .inl f_181)), (e2, .inl (k2, 60, .inl g_188))] := hD
              refine lv_iconst (v := 1) hx hb dX8_followsThing_123 (by decide) ?_
              have hP9 := hP.sub (ws' := [(h0, .inr (8, [.ref e0, .int (nI cl_175), .ref e2, .int (nI ol_187), .int j_177, .int j_178, .int j_179, .int 1])), (e0, .inl (k0, 60, .inl f_181)), (e2, .inl (k2, 60, .inl g_188))]) [0, 1, 2] rfl
              have hD9 := hD.sub (ws' := [(h0, .inr (8, [.ref e0, .int (nI cl_175), .ref e2, .int (nI ol_187), .int j_177, .int j_178, .int j_179, .int 1])), (e0, .inl (k0, 60, .inl f_181)), (e2, .inl (k2, 60, .inl g_188))]) [0, 1, 2] (by decide) rfl
              have hK9 := hK.sub (tys' := [(k0, .int), (k2, .char)]) [0, 1] rfl
              exact W.zret (v := 1) hx hb hr (by decide) (fun t ht hW => ⟨⟨1, 1, rfl, rfl, Or.inl ⟨cl_175, ol_187, j_177, j_178, j_179, 1, f_181, g_188, rfl, hf_184, hf_190, by rw [ht]; exact hP9, va_K.moved hW.alike hK9, hD9⟩⟩, hS.F ht⟩) hS.2.2 dX8_followsThing_124
          · refine lv_aload_n hx hb dX8_followsThing_51 rfl (lv_at hl 1 rfl) ?_
            refine va_get (D := (dC, dI)) (ci := 8) (v := .int i5) (C := RX8) (T := TX8) (N := 8) hx hb hts (fun _ hh => (List.mem_cons_of_mem _ (List.mem_append_right _ (List.mem_append_right _ (List.mem_append_right _ (List.mem_append_left _ hh)))))) hown hK hP 0 rfl rfl 5 (by decide) (hts (.fieldLink RX8 29 "TypingPool$Reader" "compared" "I") (List.mem_cons_of_mem _ (List.mem_append_left _ (List.mem_of_getElem? (i := 16) rfl)))) (fun _ h9 => h9) rfl dX8_followsThing_52 ?_
            refine lv_aload_n hx hb dX8_followsThing_55 rfl (lv_at hl 1 rfl) ?_
            refine va_get (D := (dC, dI)) (ci := 8) (v := .int i4) (C := RX8) (T := TX8) (N := 8) hx hb hts (fun _ hh => (List.mem_cons_of_mem _ (List.mem_append_right _ (List.mem_append_right _ (List.mem_append_right _ (List.mem_append_left _ hh)))))) hown hK hP 0 rfl rfl 4 (by decide) (hts (.fieldLink RX8 26 "TypingPool$Reader" "depth" "I") (List.mem_cons_of_mem _ (List.mem_append_left _ (List.mem_of_getElem? (i := 17) rfl)))) (fun _ h9 => h9) rfl dX8_followsThing_56 ?_
            refine lv_ishr hx hb dX8_followsThing_59 ?_
            refine lv_topi (fun x_191 ex_191 => ?_)
            refine lv_iconst (v := 1) hx hb dX8_followsThing_60 (by decide) ?_
            refine lv_iand hx hb dX8_followsThing_61 ?_
            refine lv_topi (fun x_192 ex_192 => ?_)
            refine lv_iconst (v := 1) hx hb dX8_followsThing_62 (by decide) ?_
            refine lv_icmp_ne (tgt := 68) hx hb dX8_followsThing_63 (by decide) (fun c_193 => ?_) (fun c_193 => ?_)
            · refine lv_aload_n hx hb dX8_followsThing_68 rfl (lv_at hl 1 rfl) ?_
              refine lv_dup hx hb dX8_followsThing_69 rfl ?_
              refine va_get (D := (dC, dI)) (ci := 8) (v := .int i5) (C := RX8) (T := TX8) (N := 8) hx hb hts (fun _ hh => (List.mem_cons_of_mem _ (List.mem_append_right _ (List.mem_append_right _ (List.mem_append_right _ (List.mem_append_left _ hh)))))) hown hK hP 0 rfl rfl 5 (by decide) (hts (.fieldLink RX8 29 "TypingPool$Reader" "compared" "I") (List.mem_cons_of_mem _ (List.mem_append_left _ (List.mem_of_getElem? (i := 16) rfl)))) (fun _ h9 => h9) rfl dX8_followsThing_70 ?_
              refine lv_iconst (v := 1) hx hb dX8_followsThing_73 (by decide) ?_
              refine lv_aload_n hx hb dX8_followsThing_74 rfl (lv_at hl 1 rfl) ?_
              refine va_get (D := (dC, dI)) (ci := 8) (v := .int i4) (C := RX8) (T := TX8) (N := 8) hx hb hts (fun _ hh => (List.mem_cons_of_mem _ (List.mem_append_right _ (List.mem_append_right _ (List.mem_append_right _ (List.mem_append_left _ hh)))))) hown hK hP 0 rfl rfl 4 (by decide) (hts (.fieldLink RX8 26 "TypingPool$Reader" "depth" "I") (List.mem_cons_of_mem _ (List.mem_append_left _ (List.mem_of_getElem? (i := 17) rfl)))) (fun _ h9 => h9) rfl dX8_followsThing_75 ?_
              refine lv_ishl hx hb dX8_followsThing_78 ?_
              refine lv_topi (fun x_194 ex_194 => ?_)
              refine lv_ior hx hb dX8_followsThing_79 ?_
              refine lv_topi (fun x_195 ex_195 => ?_)
              refine va_put (D := (dC, dI)) (ci := 8) (v := .int x_195) (ty := .int) (C := RX8) (T := TX8) (N := 8) hx hb hts (fun _ hh => (List.mem_cons_of_mem _ (List.mem_append_right _ (List.mem_append_right _ (List.mem_append_right _ (List.mem_append_left _ hh)))))) tyX8 tyX8_ok nmX8 hown hK hP hD hS 0 rfl rfl 5 (by decide) (hts (.fieldLink RX8 29 "TypingPool$Reader" "compared" "I") (List.mem_cons_of_mem _ (List.mem_append_left _ (List.mem_of_getElem? (i := 16) rfl)))) (fun _ h9 => h9) rfl (tyX8_ok 5 (by decide)) rfl rfl (Nat.le_of_ble_eq_true rfl) dX8_followsThing_80 (fun H locs hP hD hS => ?_)
              have hP : va_P (dC, dI) vwCl [(h0, .inr (8, [.ref e0, .int (nI cl), .ref e2, .int (nI ol), .int i4, .int x_195, .int 0, .int i7])), (e0, .inl (k0, 60, .inl f0)), (e2, .inl (k2, 60, .inl g0))] H := hP
              have hD : va_D A [(h0, .inr (8, [.ref e0, .int (nI cl), .ref e2, .int (nI ol), .int i4, .int x_195, .int 0, .int i7])), (e0, .inl (k0, 60, .inl f0)), (e2, .inl (k2, 60, .inl g0))] := hD
              refine lv_goto (tgt := 108) hx hb dX8_followsThing_83 (by decide) ?_
              refine lv_aload_n hx hb dX8_followsThing_108 rfl (lv_at hl 1 rfl) ?_
              refine lv_iload_n hx hb dX8_followsThing_109 rfl (lv_at hl 0 rfl) ?_
              have hPc := hP.sub (ws' := [(h0, .inr (8, [.ref e0, .int (nI cl), .ref e2, .int (nI ol), .int i4, .int x_195, .int 0, .int i7])), (e0, .inl (k0, 60, .inl f0)), (e2, .inl (k2, 60, .inl g0))]) [0, 1, 2] rfl
              have hDc := hD.sub (ws' := [(h0, .inr (8, [.ref e0, .int (nI cl), .ref e2, .int (nI ol), .int i4, .int x_195, .int 0, .int i7])), (e0, .inl (k0, 60, .inl f0)), (e2, .inl (k2, 60, .inl g0))]) [0, 1, 2] (by decide) rfl
              have hKc := hK.sub (tys' := [(k0, .int), (k2, .char)]) [0, 1] rfl
              have hFc := va_free (wc := [(h0, .inr (8, [.ref e0, .int (nI cl), .ref e2, .int (nI ol), .int i4, .int x_195, .int 0, .int i7])), (e0, .inl (k0, 60, .inl f0)), (e2, .inl (k2, 60, .inl g0))]) hD hS hA [0, 1, 2] rfl
              refine va_callv (va_runV (As := [.int r_148]) (rest := []) ⟨hx, hb, hml, hown, hts⟩ (o_r_close l dC dI ad av H.size h0 e0 e2 cl ol k0 k2 f0 g0 i4 x_195 0 i7 r_148 (by omega) (by omega)) (cwV 1 hts (gi_4 (List.mem_cons_of_mem _ (List.mem_append_left _ (List.mem_of_getElem? (i := 9) rfl))) (List.mem_cons_of_mem _ (List.mem_append_left _ (List.mem_of_getElem? (i := 10) rfl))) (List.mem_cons_of_mem _ (List.mem_append_left _ (List.mem_of_getElem? (i := 11) rfl))) (List.mem_cons_of_mem _ (List.mem_append_left _ (List.mem_of_getElem? (i := 2) rfl))) (fun _ hh => (List.mem_cons_of_mem _ (List.mem_append_right _ (List.mem_append_right _ (List.mem_append_right _ (List.mem_append_right _ (List.mem_append_right _ (List.mem_append_left _ hh)))))))) gd_o_r_close) rfl rfl rfl (by decide +kernel) ⟨Nat.le_of_ble_eq_true rfl, Nat.le_of_ble_eq_true rfl⟩) ⟨pr_blind, va_recv hKc hPc (ci := 8) (q0 := 0) rfl rfl, pr_use hPc hKc hDc hFc hS hM⟩ rfl rfl hl.1 rfl (lv_room (Nat.le_of_ble_eq_true rfl)) dX8_followsThing_110 ⟨Nat.le_of_ble_eq_true rfl, Nat.le_of_ble_eq_true rfl⟩) hS (fun q _ h => hFc q h) hFc (fun u t H locs ht hvm hw hB hz1 hk1 hS => ?_)
              refine W.widen (k := 0) (n := 0) (Nat.le_of_ble_eq_true rfl) (Nat.le_of_ble_eq_true rfl) ?_
              obtain ⟨cl_197, ol_198, j_199, j_200, j_201, j_202, f_203, g_204, hf_206, hf_207, hP1, hK1, hD1⟩ := hB
              rw [ht] at hP1
              have hK1 := va_K.moved hvm.symm hK1
              obtain ⟨hP, hD⟩ := va_join (wr := []) (w1 := [(h0, .inr (8, [.ref e0, .int (nI cl_197), .ref e2, .int (nI ol_198), .int j_199, .int j_200, .int j_201, .int j_202])), (e0, .inl (k0, 60, .inl f_203)), (e2, .inl (k2, 60, .inl g_204))]) hP hD [0, 1, 2] [] rfl rfl (by decide) (by decide) hk1 hFc hP1 hD1
              have hK := (hK.sub (tys' := []) [] rfl).app hK1
              have hP : va_P (dC, dI) vwCl [(h0, .inr (8, [.ref e0, .int (nI cl_197), .ref e2, .int (nI ol_198), .int j_199, .int j_200, .int j_201, .int j_202])), (e0, .inl (k0, 60, .inl f_203)), (e2, .inl (k2, 60, .inl g_204))] H := hP
              have hD : va_D A [(h0, .inr (8, [.ref e0, .int (nI cl_197), .ref e2, .int (nI ol_198), .int j_199, .int j_200, .int j_201, .int j_202])), (e0, .inl (k0, 60, .inl f_203)), (e2, .inl (k2, 60, .inl g_204))] := hD
              have hK : va_K (dC, dI) vwCl [(k0, .int), (k2, .char)] s := hK
              refine lv_aload_n hx hb dX8_followsThing_113 rfl (lv_at hl 1 rfl) ?_
              refine lv_iload_n hx hb dX8_followsThing_114 rfl (lv_at hl 2 rfl) ?_
              have hPc := hP.sub (ws' := [(h0, .inr (8, [.ref e0, .int (nI cl_197), .ref e2, .int (nI ol_198), .int j_199, .int j_200, .int j_201, .int j_202])), (e0, .inl (k0, 60, .inl f_203)), (e2, .inl (k2, 60, .inl g_204))]) [0, 1, 2] rfl
              have hDc := hD.sub (ws' := [(h0, .inr (8, [.ref e0, .int (nI cl_197), .ref e2, .int (nI ol_198), .int j_199, .int j_200, .int j_201, .int j_202])), (e0, .inl (k0, 60, .inl f_203)), (e2, .inl (k2, 60, .inl g_204))]) [0, 1, 2] (by decide) rfl
              have hKc := hK.sub (tys' := [(k0, .int), (k2, .char)]) [0, 1] rfl
              have hFc := va_free (wc := [(h0, .inr (8, [.ref e0, .int (nI cl_197), .ref e2, .int (nI ol_198), .int j_199, .int j_200, .int j_201, .int j_202])), (e0, .inl (k0, 60, .inl f_203)), (e2, .inl (k2, 60, .inl g_204))]) hD hS hA [0, 1, 2] rfl
              refine va_callv (va_runV (As := [.int p0]) (rest := []) ⟨hx, hb, hml, hown, hts⟩ (o_r_keepOpen l dC dI ad av H.size h0 e0 e2 cl_197 ol_198 k0 k2 f_203 g_204 j_199 j_200 j_201 j_202 p0 hf_206 hf_207) (cwV 1 hts (gi_4 (List.mem_cons_of_mem _ (List.mem_append_left _ (List.mem_of_getElem? (i := 12) rfl))) (List.mem_cons_of_mem _ (List.mem_append_left _ (List.mem_of_getElem? (i := 13) rfl))) (List.mem_cons_of_mem _ (List.mem_append_left _ (List.mem_of_getElem? (i := 14) rfl))) (List.mem_cons_of_mem _ (List.mem_append_left _ (List.mem_of_getElem? (i := 2) rfl))) (fun _ hh => (List.mem_cons_of_mem _ (List.mem_append_right _ (List.mem_append_right _ (List.mem_append_right _ (List.mem_append_right _ (List.mem_append_right _ (List.mem_append_right _ (List.mem_append_left _ hh))))))))) gd_o_r_keepOpen) rfl rfl rfl (by decide +kernel) ⟨Nat.le_of_ble_eq_true rfl, Nat.le_of_ble_eq_true rfl⟩) ⟨pr_blind, va_recv hKc hPc (ci := 8) (q0 := 0) rfl rfl, pr_use hPc hKc hDc hFc hS hM⟩ rfl rfl hl.1 rfl (lv_room (Nat.le_of_ble_eq_true rfl)) dX8_followsThing_115 ⟨Nat.le_of_ble_eq_true rfl, Nat.le_of_ble_eq_true rfl⟩) hS (fun q _ h => hFc q h) hFc (fun u t H locs ht hvm hw hB hz1 hk1 hS => ?_)
              refine W.widen (k := 0) (n := 0) (Nat.le_of_ble_eq_true rfl) (Nat.le_of_ble_eq_true rfl) ?_
              obtain ⟨ol_209, g_210, hf_212, hP1, hK1, hD1⟩ := hB
              rw [ht] at hP1
              have hK1 := va_K.moved hvm.symm hK1
              obtain ⟨hP, hD⟩ := va_join (wr := []) (w1 := [(h0, .inr (8, [.ref e0, .int (nI cl_197), .ref e2, .int (nI ol_209), .int j_199, .int j_200, .int j_201, .int j_202])), (e0, .inl (k0, 60, .inl f_203)), (e2, .inl (k2, 60, .inl g_210))]) hP hD [0, 1, 2] [] rfl rfl (by decide) (by decide) hk1 hFc hP1 hD1
              have hK := (hK.sub (tys' := []) [] rfl).app hK1
              have hP : va_P (dC, dI) vwCl [(h0, .inr (8, [.ref e0, .int (nI cl_197), .ref e2, .int (nI ol_209), .int j_199, .int j_200, .int j_201, .int j_202])), (e0, .inl (k0, 60, .inl f_203)), (e2, .inl (k2, 60, .inl g_210))] H := hP
              have hD : va_D A [(h0, .inr (8, [.ref e0, .int (nI cl_197), .ref e2, .int (nI ol_209), .int j_199, .int j_200, .int j_201, .int j_202])), (e0, .inl (k0, 60, .inl f_203)), (e2, .inl (k2, 60, .inl g_210))] := hD
              have hK : va_K (dC, dI) vwCl [(k0, .int), (k2, .char)] s := hK
              refine lv_aload_n hx hb dX8_followsThing_118 rfl (lv_at hl 1 rfl) ?_
              refine lv_iconst (v := 1) hx hb dX8_followsThing_119 (by decide) ?_
              refine va_put (D := (dC, dI)) (ci := 8) (v := .int 1) (ty := .boolean) (C := RX8) (T := TX8) (N := 8) hx hb hts (fun _ hh => (List.mem_cons_of_mem _ (List.mem_append_right _ (List.mem_append_right _ (List.mem_append_right _ (List.mem_append_left _ hh)))))) tyX8 tyX8_ok nmX8 hown hK hP hD hS 0 rfl rfl 7 (by decide) (hts (.fieldLink RX8 35 "TypingPool$Reader" "wantsThing" "Z") (List.mem_cons_of_mem _ (List.mem_append_left _ (List.mem_of_getElem? (i := 15) rfl)))) (fun _ h9 => h9) rfl (tyX8_ok 7 (by decide)) rfl rfl (Nat.le_of_ble_eq_true rfl) dX8_followsThing_120 (fun H locs hP hD hS => ?_)
              have hP : va_P (dC, dI) vwCl [(h0, .inr (8, [.ref e0, .int (nI cl_197), .ref e2, .int (nI ol_209), .int j_199, .int j_200, .int j_201, .int 1])), (e0, .inl (k0, 60, .inl f_203)), (e2, .inl (k2, 60, .inl g_210))] H := hP
              have hD : va_D A [(h0, .inr (8, [.ref e0, .int (nI cl_197), .ref e2, .int (nI ol_209), .int j_199, .int j_200, .int j_201, .int 1])), (e0, .inl (k0, 60, .inl f_203)), (e2, .inl (k2, 60, .inl g_210))] := hD
              refine lv_iconst (v := 1) hx hb dX8_followsThing_123 (by decide) ?_
              have hP9 := hP.sub (ws' := [(h0, .inr (8, [.ref e0, .int (nI cl_197), .ref e2, .int (nI ol_209), .int j_199, .int j_200, .int j_201, .int 1])), (e0, .inl (k0, 60, .inl f_203)), (e2, .inl (k2, 60, .inl g_210))]) [0, 1, 2] rfl
              have hD9 := hD.sub (ws' := [(h0, .inr (8, [.ref e0, .int (nI cl_197), .ref e2, .int (nI ol_209), .int j_199, .int j_200, .int j_201, .int 1])), (e0, .inl (k0, 60, .inl f_203)), (e2, .inl (k2, 60, .inl g_210))]) [0, 1, 2] (by decide) rfl
              have hK9 := hK.sub (tys' := [(k0, .int), (k2, .char)]) [0, 1] rfl
              exact W.zret (v := 1) hx hb hr (by decide) (fun t ht hW => ⟨⟨1, 1, rfl, rfl, Or.inl ⟨cl_197, ol_209, j_199, j_200, j_201, 1, f_203, g_210, rfl, hf_206, hf_212, by rw [ht]; exact hP9, va_K.moved hW.alike hK9, hD9⟩⟩, hS.F ht⟩) hS.2.2 dX8_followsThing_124
            · refine lv_iconst (v := 0) hx hb dX8_followsThing_66 (by decide) ?_
              have hP9 := hP.sub (ws' := [(h0, .inr (8, [.ref e0, .int (nI cl), .ref e2, .int (nI ol), .int i4, .int i5, .int 0, .int i7])), (e0, .inl (k0, 60, .inl f0)), (e2, .inl (k2, 60, .inl g0))]) [0, 1, 2] rfl
              have hD9 := hD.sub (ws' := [(h0, .inr (8, [.ref e0, .int (nI cl), .ref e2, .int (nI ol), .int i4, .int i5, .int 0, .int i7])), (e0, .inl (k0, 60, .inl f0)), (e2, .inl (k2, 60, .inl g0))]) [0, 1, 2] (by decide) rfl
              have hK9 := hK.sub (tys' := [(k0, .int), (k2, .char)]) [0, 1] rfl
              exact W.zret (v := 0) hx hb hr (by decide) (fun t ht hW => ⟨⟨0, 0, rfl, rfl, Or.inr (⟨cl, ol, i4, i5, 0, i7, f0, g0, rfl, (by omega), (by omega), by rw [ht]; exact hP9, va_K.moved hW.alike hK9, hD9⟩)⟩, hS.F ht⟩) hS.2.2 dX8_followsThing_67
        · refine lv_iconst (v := 0) hx hb dX8_followsThing_44 (by decide) ?_
          have hP9 := hP.sub (ws' := [(h0, .inr (8, [.ref e0, .int (nI cl), .ref e2, .int (nI ol), .int i4, .int i5, .int 0, .int i7])), (e0, .inl (k0, 60, .inl f0)), (e2, .inl (k2, 60, .inl g0))]) [0, 1, 2] rfl
          have hD9 := hD.sub (ws' := [(h0, .inr (8, [.ref e0, .int (nI cl), .ref e2, .int (nI ol), .int i4, .int i5, .int 0, .int i7])), (e0, .inl (k0, 60, .inl f0)), (e2, .inl (k2, 60, .inl g0))]) [0, 1, 2] (by decide) rfl
          have hK9 := hK.sub (tys' := [(k0, .int), (k2, .char)]) [0, 1] rfl
          exact W.zret (v := 0) hx hb hr (by decide) (fun t ht hW => ⟨⟨0, 0, rfl, rfl, Or.inr (⟨cl, ol, i4, i5, 0, i7, f0, g0, rfl, (by omega), (by omega), by rw [ht]; exact hP9, va_K.moved hW.alike hK9, hD9⟩)⟩, hS.F ht⟩) hS.2.2 dX8_followsThing_45
    · refine lv_aload_n hx hb dX8_followsThing_24 rfl (lv_at hl 0 rfl) ?_
      have hPc := hP.sub (ws' := [(h0, .inr (8, [.ref e0, .int (nI cl), .ref e2, .int (nI ol), .int i4, .int i5, .int 0, .int i7])), (e0, .inl (k0, 60, .inl f0)), (e2, .inl (k2, 60, .inl g0))]) [0, 1, 2] rfl
      have hDc := hD.sub (ws' := [(h0, .inr (8, [.ref e0, .int (nI cl), .ref e2, .int (nI ol), .int i4, .int i5, .int 0, .int i7])), (e0, .inl (k0, 60, .inl f0)), (e2, .inl (k2, 60, .inl g0))]) [0, 1, 2] (by decide) rfl
      have hKc := hK.sub (tys' := [(k0, .int), (k2, .char)]) [0, 1] rfl
      have hFc := va_free (wc := [(h0, .inr (8, [.ref e0, .int (nI cl), .ref e2, .int (nI ol), .int i4, .int i5, .int 0, .int i7])), (e0, .inl (k0, 60, .inl f0)), (e2, .inl (k2, 60, .inl g0))]) hD hS hA [0, 1, 2] rfl
      refine va_calli (va_runV (As := []) (rest := []) ⟨hx, hb, hml, hown, hts⟩ (o_r_closesBracket l dC dI ad av H.size h0 e0 e2 cl ol k0 k2 f0 g0 i4 i5 0 i7 (by omega) (by omega)) (cwV 0 hts (gi_4 (List.mem_cons_of_mem _ (List.mem_append_left _ (List.mem_of_getElem? (i := 18) rfl))) (List.mem_cons_of_mem _ (List.mem_append_left _ (List.mem_of_getElem? (i := 19) rfl))) (List.mem_cons_of_mem _ (List.mem_append_left _ (List.mem_of_getElem? (i := 20) rfl))) (List.mem_cons_of_mem _ (List.mem_append_left _ (List.mem_of_getElem? (i := 2) rfl))) (fun _ hh => (List.mem_cons_of_mem _ (List.mem_append_right _ (List.mem_append_right _ (List.mem_append_right _ (List.mem_append_right _ (List.mem_append_right _ (List.mem_append_right _ (List.mem_append_right _ (List.mem_append_left _ hh)))))))))) gd_o_r_closesBracket) rfl rfl rfl (by decide +kernel) ⟨Nat.le_of_ble_eq_true rfl, Nat.le_of_ble_eq_true rfl⟩) ⟨pr_blind, va_recv hKc hPc (ci := 8) (q0 := 0) rfl rfl, pr_use hPc hKc hDc hFc hS hM⟩ rfl rfl hl.1 rfl (lv_room (Nat.le_of_ble_eq_true rfl)) dX8_followsThing_25 ⟨Nat.le_of_ble_eq_true rfl, Nat.le_of_ble_eq_true rfl⟩) hS (fun q _ h => hFc q h) hFc (fun r_213 u t H locs ht hvm hw hB hz1 hk1 hS => ?_)
      refine W.widen (k := 0) (n := 0) (Nat.le_of_ble_eq_true rfl) (Nat.le_of_ble_eq_true rfl) ?_
      subst hw
      rcases hB with ⟨cl_214, ol_215, j_216, j_217, j_218, j_219, f_220, g_221, hre_222, hf_223, hf_224, hP1, hK1, hD1⟩ | ⟨cl_225, ol_226, j_227, j_228, j_229, j_230, f_231, g_232, hre_233, hf_234, hf_235, hP1, hK1, hD1⟩
      · refine lq_top (v := 1) hre_222 ?_
        rw [ht] at hP1
        have hK1 := va_K.moved hvm.symm hK1
        obtain ⟨hP, hD⟩ := va_join (wr := []) (w1 := [(h0, .inr (8, [.ref e0, .int (nI cl_214), .ref e2, .int (nI ol_215), .int j_216, .int j_217, .int j_218, .int j_219])), (e0, .inl (k0, 60, .inl f_220)), (e2, .inl (k2, 60, .inl g_221))]) hP hD [0, 1, 2] [] rfl rfl (by decide) (by decide) hk1 hFc hP1 hD1
        have hK := (hK.sub (tys' := []) [] rfl).app hK1
        have hP : va_P (dC, dI) vwCl [(h0, .inr (8, [.ref e0, .int (nI cl_214), .ref e2, .int (nI ol_215), .int j_216, .int j_217, .int j_218, .int j_219])), (e0, .inl (k0, 60, .inl f_220)), (e2, .inl (k2, 60, .inl g_221))] H := hP
        have hD : va_D A [(h0, .inr (8, [.ref e0, .int (nI cl_214), .ref e2, .int (nI ol_215), .int j_216, .int j_217, .int j_218, .int j_219])), (e0, .inl (k0, 60, .inl f_220)), (e2, .inl (k2, 60, .inl g_221))] := hD
        have hK : va_K (dC, dI) vwCl [(k0, .int), (k2, .char)] s := hK
        have hP9 := hP.sub (ws' := [(h0, .inr (8, [.ref e0, .int (nI cl_214), .ref e2, .int (nI ol_215), .int j_216, .int j_217, .int j_218, .int j_219])), (e0, .inl (k0, 60, .inl f_220)), (e2, .inl (k2, 60, .inl g_221))]) [0, 1, 2] rfl
        have hD9 := hD.sub (ws' := [(h0, .inr (8, [.ref e0, .int (nI cl_214), .ref e2, .int (nI ol_215), .int j_216, .int j_217, .int j_218, .int j_219])), (e0, .inl (k0, 60, .inl f_220)), (e2, .inl (k2, 60, .inl g_221))]) [0, 1, 2] (by decide) rfl
        have hK9 := hK.sub (tys' := [(k0, .int), (k2, .char)]) [0, 1] rfl
        exact W.zret (v := 1) hx hb hr (by decide) (fun t ht hW => ⟨⟨1, 1, rfl, rfl, Or.inl ⟨cl_214, ol_215, j_216, j_217, j_218, j_219, f_220, g_221, rfl, hf_223, hf_224, by rw [ht]; exact hP9, va_K.moved hW.alike hK9, hD9⟩⟩, hS.F ht⟩) hS.2.2 dX8_followsThing_28
      · refine lq_top (v := 0) hre_233 ?_
        rw [ht] at hP1
        have hK1 := va_K.moved hvm.symm hK1
        obtain ⟨hP, hD⟩ := va_join (wr := []) (w1 := [(h0, .inr (8, [.ref e0, .int (nI cl_225), .ref e2, .int (nI ol_226), .int j_227, .int j_228, .int j_229, .int j_230])), (e0, .inl (k0, 60, .inl f_231)), (e2, .inl (k2, 60, .inl g_232))]) hP hD [0, 1, 2] [] rfl rfl (by decide) (by decide) hk1 hFc hP1 hD1
        have hK := (hK.sub (tys' := []) [] rfl).app hK1
        have hP : va_P (dC, dI) vwCl [(h0, .inr (8, [.ref e0, .int (nI cl_225), .ref e2, .int (nI ol_226), .int j_227, .int j_228, .int j_229, .int j_230])), (e0, .inl (k0, 60, .inl f_231)), (e2, .inl (k2, 60, .inl g_232))] H := hP
        have hD : va_D A [(h0, .inr (8, [.ref e0, .int (nI cl_225), .ref e2, .int (nI ol_226), .int j_227, .int j_228, .int j_229, .int j_230])), (e0, .inl (k0, 60, .inl f_231)), (e2, .inl (k2, 60, .inl g_232))] := hD
        have hK : va_K (dC, dI) vwCl [(k0, .int), (k2, .char)] s := hK
        have hP9 := hP.sub (ws' := [(h0, .inr (8, [.ref e0, .int (nI cl_225), .ref e2, .int (nI ol_226), .int j_227, .int j_228, .int j_229, .int j_230])), (e0, .inl (k0, 60, .inl f_231)), (e2, .inl (k2, 60, .inl g_232))]) [0, 1, 2] rfl
        have hD9 := hD.sub (ws' := [(h0, .inr (8, [.ref e0, .int (nI cl_225), .ref e2, .int (nI ol_226), .int j_227, .int j_228, .int j_229, .int j_230])), (e0, .inl (k0, 60, .inl f_231)), (e2, .inl (k2, 60, .inl g_232))]) [0, 1, 2] (by decide) rfl
        have hK9 := hK.sub (tys' := [(k0, .int), (k2, .char)]) [0, 1] rfl
        exact W.zret (v := 0) hx hb hr (by decide) (fun t ht hW => ⟨⟨0, 0, rfl, rfl, Or.inr (⟨cl_225, ol_226, j_227, j_228, j_229, j_230, f_231, g_232, rfl, hf_234, hf_235, by rw [ht]; exact hP9, va_K.moved hW.alike hK9, hD9⟩)⟩, hS.F ht⟩) hS.2.2 dX8_followsThing_28
def wo_o_r_beginsThing : List Cond := [.methodLink RX8 63 yJ0_indexOf_0f7a4, .instanceMethod yJ0_indexOf_0f7a4, .selects RJ0 yJ0_indexOf_0f7a4 yJ0_indexOf_0f7a4, .initialized RJ0, .methodLink RX8 69 yX8_isDigit, .static yX8_isDigit, .initialized RX8, .methodLink RX8 72 yX8_write, .instanceMethod yX8_write, .selects RX8 yX8_write yX8_write, .fieldLink RX8 32 "TypingPool$Reader" "digits" "I", .fieldLink RX8 35 "TypingPool$Reader" "wantsThing" "Z", .methodLink RX8 75 yX8_keepOpen, .instanceMethod yX8_keepOpen, .selects RX8 yX8_keepOpen yX8_keepOpen, .fieldLink RX8 26 "TypingPool$Reader" "depth" "I", .fieldLink RX8 29 "TypingPool$Reader" "compared" "I"]
def wm_o_r_beginsThing : List Cond := .code yX8_beginsThing cX8_beginsThing 4 (some .boolean) :: (wo_o_r_beginsThing ++ (wm_j_indexOf1 ++ (wm_o_r_isDigit ++ (wm_o_r_write ++ (wsX80 ++ (wm_o_r_keepOpen ++ ([] : List Cond)))))))
theorem gd_o_r_beginsThing : ∀ w ∈ wm_o_r_beginsThing, goodWord w = true := gd_c rfl (gd_a (by decide) (gd_a gd_j_indexOf1 (gd_a gd_o_r_isDigit (gd_a gd_o_r_write (gd_a gd_wsX80 (gd_a gd_o_r_keepOpen gd_nil))))))
set_option maxRecDepth 20000 in
theorem im_o_r_beginsThing : ∀ w ∈ wm_o_r_beginsThing, w ∈ lw_tbl := im_c (in_r [.code yX8_beginsThing cX8_beginsThing 4 (some .boolean)] [265] (by decide +kernel)) (in_app (in_r wo_o_r_beginsThing [266, 267, 268, 74, 330, 331, 73, 333, 335, 1, 176, 177, 337, 339, 2, 174, 175] (by decide +kernel)) (in_app im_j_indexOf1 (in_app im_o_r_isDigit (in_app im_o_r_write (in_app im_wsX80 (in_app im_o_r_keepOpen im_nil))))))
set_option maxHeartbeats 4000000 in
set_option maxRecDepth 100000 in
theorem o_r_beginsThing (l : Launch) (dC : Nat → ClassId) (dI : Nat → Nat → Nat) (ad av : Nat → Nat) (sz : Nat) (h0 : Nat) (e0 : Nat) (e2 : Nat) (cl : Nat) (ol : Nat) (k0 : ClassId) (k2 : ClassId) (f0 : Nat → Int32) (g0 : Nat → Int32) (i4 : Int32) (i5 : Int32) (i6 : Int32) (i7 : Int32) (i : Nat) (p0 : Int32) (hcl : cl ≤ 60) (hol : ol ≤ 60) (hi : i < 13) : Met l yX8_beginsThing wm_o_r_beginsThing ({ frames := 8, cells := 0, slots := 0, locals := 250 }) (pr_ ad av (dC, dI) sz [.ref h0, .int p0, .ref (ad i)] [(h0, .inr (8, [.ref e0, .int (nI cl), .ref e2, .int (nI ol), .int i4, .int i5, .int i6, .int i7])), (e0, .inl (k0, 60, .inl f0)), (e2, .inl (k2, 60, .inl g0))] [(k0, .int), (k2, .char)]) (va_Qi (fun (r u : Int32) => u = r) (fun (r : Int32) (t : State) => (∃ (cl1 : Nat), ∃ (ol1 : Nat), ∃ (j4 : Int32), ∃ (j5 : Int32), ∃ (j6 : Int32), ∃ (j7 : Int32), ∃ (f1 : Nat → Int32), ∃ (g1 : Nat → Int32), r = 1 ∧ cl1 ≤ 60 ∧ ol1 ≤ 60 ∧ po_ (dC, dI) (va_A [(h0, .inr (8, [.ref e0, .int (nI cl), .ref e2, .int (nI ol), .int i4, .int i5, .int i6, .int i7])), (e0, .inl (k0, 60, .inl f0)), (e2, .inl (k2, 60, .inl g0))] sz) [(h0, .inr (8, [.ref e0, .int (nI cl1), .ref e2, .int (nI ol1), .int j4, .int j5, .int j6, .int j7])), (e0, .inl (k0, 60, .inl f1)), (e2, .inl (k2, 60, .inl g1))] [(k0, .int), (k2, .char)] t) ∨ (∃ (cl1 : Nat), ∃ (ol1 : Nat), ∃ (j4 : Int32), ∃ (j5 : Int32), ∃ (j6 : Int32), ∃ (j7 : Int32), ∃ (f1 : Nat → Int32), ∃ (g1 : Nat → Int32), r = 0 ∧ cl1 ≤ 60 ∧ ol1 ≤ 60 ∧ po_ (dC, dI) (va_A [(h0, .inr (8, [.ref e0, .int (nI cl), .ref e2, .int (nI ol), .int i4, .int i5, .int i6, .int i7])), (e0, .inl (k0, 60, .inl f0)), (e2, .inl (k2, 60, .inl g0))] sz) [(h0, .inr (8, [.ref e0, .int (nI cl1), .ref e2, .int (nI ol1), .int j4, .int j5, .int j6, .int j7])), (e0, .inl (k0, 60, .inl f1)), (e2, .inl (k2, 60, .inl g1))] [(k0, .int), (k2, .char)] t)) (va_A [(h0, .inr (8, [.ref e0, .int (nI cl), .ref e2, .int (nI ol), .int i4, .int i5, .int i6, .int i7])), (e0, .inl (k0, 60, .inl f0)), (e2, .inl (k2, 60, .inl g0))] sz)) 0 0 (va_A [(h0, .inr (8, [.ref e0, .int (nI cl), .ref e2, .int (nI ol), .int i4, .int i5, .int i6, .int i7])), (e0, .inl (k0, 60, .inl f0)), (e2, .inl (k2, 60, .inl g0))] sz) := by
  refine Met.ofW (cc := cX8_beginsThing) (maxL := 4) (ret := (some .boolean)) (by decide) rfl ?_
  intro p e s m args below meth c s₁ B hml hv
  obtain ⟨rfl, hsz, hP, hK, hD0, hM⟩ := hv
  have hx := B.exec
  have hb := B.bytes
  have hr := B.returns
  have hts := atoms_spec (ws := wm_o_r_beginsThing) B.pre
  have hown : s.vm.findClass RX8 = some m.cls := findClass_of_methodNamed B.named
  have hlocks := B.notSynchronized
  subst hsz
  have hD := hD0.self (sz := s.heap.size)
  generalize hAe : va_A [(h0, .inr (8, [.ref e0, .int (nI cl), .ref e2, .int (nI ol), .int i4, .int i5, .int i6, .int i7])), (e0, .inl (k0, 60, .inl f0)), (e2, .inl (k2, 60, .inl g0))] s.heap.size = A at hD hM ⊢
  have hA : ∀ q : Nat, s.heap.size ≤ q → A q := fun q h => by rw [← hAe]; exact Or.inr h
  have hS : va_S A s.heap s.heap [] := va_S.rf
  have hP : va_P (dC, dI) vwCl [(h0, .inr (8, [.ref e0, .int (nI cl), .ref e2, .int (nI ol), .int i4, .int i5, .int i6, .int i7])), (e0, .inl (k0, 60, .inl f0)), (e2, .inl (k2, 60, .inl g0))] s.heap := hP
  have hl := lv_entry ([.ref h0, .int p0, .ref (ad i)]) (n := 4) (Nat.le_of_ble_eq_true rfl)
  rw [lg_entry_eq]
  generalize (lg_sl ([.ref h0, .int p0, .ref (ad i)]) ++ List.replicate (4 - (lg_sl ([.ref h0, .int p0, .ref (ad i)])).length) Slot.unset).toArray = ls at hl ⊢
  have hl : lv_has ls 4 [(0, .ref h0), (1, .int p0), (2, .ref (ad i))] := hl
  have hStr := st_at hM i hi
  have hsL := sL_le i
  obtain ⟨fS, hT⟩ := hStr.2.2.2
  refine lv_aload_n hx hb dX8_beginsThing_0 rfl (lv_at hl 2 rfl) ?_
  refine lv_iload_n hx hb dX8_beginsThing_1 rfl (lv_at hl 1 rfl) ?_
  have hPc := hP.sub (ws' := []) [] rfl
  have hDc := hD.sub (ws' := []) [] (by decide) rfl
  have hKc := hK.sub (tys' := []) [] rfl
  have hFc := va_free (wc := []) hD hS hA [] rfl
  refine va_calli (va_runV (As := [.int p0]) (rest := []) ⟨hx, hb, hml, hown, hts⟩ (j_indexOf1 l dC dI ad av s.heap.size i p0 (by omega)) (cwV 1 hts (gi_4 (List.mem_cons_of_mem _ (List.mem_append_left _ (List.mem_of_getElem? (i := 0) rfl))) (List.mem_cons_of_mem _ (List.mem_append_left _ (List.mem_of_getElem? (i := 1) rfl))) (List.mem_cons_of_mem _ (List.mem_append_left _ (List.mem_of_getElem? (i := 2) rfl))) (List.mem_cons_of_mem _ (List.mem_append_left _ (List.mem_of_getElem? (i := 3) rfl))) (fun _ hh => (List.mem_cons_of_mem _ (List.mem_append_right _ (List.mem_append_left _ hh)))) gd_j_indexOf1) rfl rfl rfl (by decide +kernel) ⟨Nat.le_of_ble_eq_true rfl, Nat.le_of_ble_eq_true rfl⟩) ⟨pr_blind, st_recv hStr hS, pr_use hPc hKc hDc hFc hS hM⟩ rfl rfl hl.1 rfl (lv_room (Nat.le_of_ble_eq_true rfl)) dX8_beginsThing_2 ⟨Nat.le_of_ble_eq_true rfl, Nat.le_of_ble_eq_true rfl⟩) hS (fun q _ h => hFc q h) hFc (fun r_55 u t H locs ht hvm hw hB hz1 hk1 hS => ?_)
  refine W.widen (k := 0) (n := 0) (Nat.le_of_ble_eq_true rfl) (Nat.le_of_ble_eq_true rfl) ?_
  subst hw
  obtain ⟨r_56, hre_57, hf_58, hP1, hK1, hD1⟩ := hB
  refine lq_top (v := r_56) hre_57 ?_
  rw [ht] at hP1
  have hK1 := va_K.moved hvm.symm hK1
  obtain ⟨hP, hD⟩ := va_join (wr := [(h0, .inr (8, [.ref e0, .int (nI cl), .ref e2, .int (nI ol), .int i4, .int i5, .int i6, .int i7])), (e0, .inl (k0, 60, .inl f0)), (e2, .inl (k2, 60, .inl g0))]) (w1 := []) hP hD [] [0, 1, 2] rfl rfl (by decide) (by decide) hk1 hFc hP1 hD1
  have hK := (hK.sub (tys' := [(k0, .int), (k2, .char)]) [0, 1] rfl).app hK1
  have hP : va_P (dC, dI) vwCl [(h0, .inr (8, [.ref e0, .int (nI cl), .ref e2, .int (nI ol), .int i4, .int i5, .int i6, .int i7])), (e0, .inl (k0, 60, .inl f0)), (e2, .inl (k2, 60, .inl g0))] H := hP
  have hD : va_D A [(h0, .inr (8, [.ref e0, .int (nI cl), .ref e2, .int (nI ol), .int i4, .int i5, .int i6, .int i7])), (e0, .inl (k0, 60, .inl f0)), (e2, .inl (k2, 60, .inl g0))] := hD
  have hK : va_K (dC, dI) vwCl [(k0, .int), (k2, .char)] s := hK
  refine lv_istore_n (lv' := [(3, .int r_56), (0, .ref h0), (1, .int p0), (2, .ref (ad i))]) hx hb dX8_beginsThing_5 rfl hl (by decide) rfl (fun ls hl => ?_)
  refine lv_iload_n hx hb dX8_beginsThing_6 rfl (lv_at hl 2 rfl) ?_
  have hPc := hP.sub (ws' := []) [] rfl
  have hDc := hD.sub (ws' := []) [] (by decide) rfl
  have hKc := hK.sub (tys' := []) [] rfl
  have hFc := va_free (wc := []) hD hS hA [] rfl
  refine va_calli (va_runS (As := [.int p0]) (rest := []) ⟨hx, hb, hml, hown, hts⟩ (o_r_isDigit l dC dI ad av H.size p0 ) (va_cwS 1 hts (gi_3 (List.mem_cons_of_mem _ (List.mem_append_left _ (List.mem_of_getElem? (i := 4) rfl))) (List.mem_cons_of_mem _ (List.mem_append_left _ (List.mem_of_getElem? (i := 5) rfl))) (List.mem_cons_of_mem _ (List.mem_append_left _ (List.mem_of_getElem? (i := 6) rfl))) (fun _ hh => (List.mem_cons_of_mem _ (List.mem_append_right _ (List.mem_append_right _ (List.mem_append_left _ hh))))) gd_o_r_isDigit) rfl rfl rfl (by decide +kernel) ⟨Nat.le_of_ble_eq_true rfl, Nat.le_of_ble_eq_true rfl⟩) ⟨pr_blind, pr_use hPc hKc hDc hFc hS hM⟩ rfl rfl hl.1 rfl (lv_room (Nat.le_of_ble_eq_true rfl)) dX8_beginsThing_7 ⟨Nat.le_of_ble_eq_true rfl, Nat.le_of_ble_eq_true rfl⟩) hS (fun q _ h => hFc q h) hFc (fun r_59 u t H locs ht hvm hw hB hz1 hk1 hS => ?_)
  refine W.widen (k := 0) (n := 0) (Nat.le_of_ble_eq_true rfl) (Nat.le_of_ble_eq_true rfl) ?_
  subst hw
  rcases hB with ⟨hre_60, hP1, hK1, hD1⟩ | ⟨hre_61, hP1, hK1, hD1⟩
  · refine lq_top (v := 1) hre_60 ?_
    rw [ht] at hP1
    have hK1 := va_K.moved hvm.symm hK1
    obtain ⟨hP, hD⟩ := va_join (wr := [(h0, .inr (8, [.ref e0, .int (nI cl), .ref e2, .int (nI ol), .int i4, .int i5, .int i6, .int i7])), (e0, .inl (k0, 60, .inl f0)), (e2, .inl (k2, 60, .inl g0))]) (w1 := []) hP hD [] [0, 1, 2] rfl rfl (by decide) (by decide) hk1 hFc hP1 hD1
    have hK := (hK.sub (tys' := [(k0, .int), (k2, .char)]) [0, 1] rfl).app hK1
    have hP : va_P (dC, dI) vwCl [(h0, .inr (8, [.ref e0, .int (nI cl), .ref e2, .int (nI ol), .int i4, .int i5, .int i6, .int i7])), (e0, .inl (k0, 60, .inl f0)), (e2, .inl (k2, 60, .inl g0))] H := hP
    have hD : va_D A [(h0, .inr (8, [.ref e0, .int (nI cl), .ref e2, .int (nI ol), .int i4, .int i5, .int i6, .int i7])), (e0, .inl (k0, 60, .inl f0)), (e2, .inl (k2, 60, .inl g0))] := hD
    have hK : va_K (dC, dI) vwCl [(k0, .int), (k2, .char)] s := hK
    refine lv_if_ne (tgt := 17) hx hb dX8_beginsThing_10 (by decide) (fun c_62 => ?_) (fun c_62 => absurd c_62 (by decide))
    refine lv_aload_n hx hb dX8_beginsThing_17 rfl (lv_at hl 1 rfl) ?_
    refine lv_iload_n hx hb dX8_beginsThing_18 rfl (lv_at hl 0 rfl) ?_
    refine lv_if_lt (tgt := 30) hx hb dX8_beginsThing_19 (by decide) (fun c_63 => ?_) (fun c_63 => ?_)
    · refine lv_iload_n hx hb dX8_beginsThing_30 rfl (lv_at hl 2 rfl) ?_
      refine lv_bipush (v := 48) hx hb dX8_beginsThing_31 (by decide) ?_
      refine lv_isub hx hb dX8_beginsThing_33 ?_
      refine lv_topi (fun x_64 ex_64 => ?_)
      have hPc := hP.sub (ws' := [(h0, .inr (8, [.ref e0, .int (nI cl), .ref e2, .int (nI ol), .int i4, .int i5, .int i6, .int i7])), (e0, .inl (k0, 60, .inl f0)), (e2, .inl (k2, 60, .inl g0))]) [0, 1, 2] rfl
      have hDc := hD.sub (ws' := [(h0, .inr (8, [.ref e0, .int (nI cl), .ref e2, .int (nI ol), .int i4, .int i5, .int i6, .int i7])), (e0, .inl (k0, 60, .inl f0)), (e2, .inl (k2, 60, .inl g0))]) [0, 1, 2] (by decide) rfl
      have hKc := hK.sub (tys' := [(k0, .int), (k2, .char)]) [0, 1] rfl
      have hFc := va_free (wc := [(h0, .inr (8, [.ref e0, .int (nI cl), .ref e2, .int (nI ol), .int i4, .int i5, .int i6, .int i7])), (e0, .inl (k0, 60, .inl f0)), (e2, .inl (k2, 60, .inl g0))]) hD hS hA [0, 1, 2] rfl
      refine va_callv (va_runV (As := [.int x_64]) (rest := []) ⟨hx, hb, hml, hown, hts⟩ (o_r_write l dC dI ad av H.size h0 e0 e2 cl ol k0 k2 f0 g0 i4 i5 i6 i7 x_64 (by omega) (by omega)) (cwV 1 hts (gi_4 (List.mem_cons_of_mem _ (List.mem_append_left _ (List.mem_of_getElem? (i := 7) rfl))) (List.mem_cons_of_mem _ (List.mem_append_left _ (List.mem_of_getElem? (i := 8) rfl))) (List.mem_cons_of_mem _ (List.mem_append_left _ (List.mem_of_getElem? (i := 9) rfl))) (List.mem_cons_of_mem _ (List.mem_append_left _ (List.mem_of_getElem? (i := 6) rfl))) (fun _ hh => (List.mem_cons_of_mem _ (List.mem_append_right _ (List.mem_append_right _ (List.mem_append_right _ (List.mem_append_left _ hh)))))) gd_o_r_write) rfl rfl rfl (by decide +kernel) ⟨Nat.le_of_ble_eq_true rfl, Nat.le_of_ble_eq_true rfl⟩) ⟨pr_blind, va_recv hKc hPc (ci := 8) (q0 := 0) rfl rfl, pr_use hPc hKc hDc hFc hS hM⟩ rfl rfl hl.1 rfl (lv_room (Nat.le_of_ble_eq_true rfl)) dX8_beginsThing_34 ⟨Nat.le_of_ble_eq_true rfl, Nat.le_of_ble_eq_true rfl⟩) hS (fun q _ h => hFc q h) hFc (fun u t H locs ht hvm hw hB hz1 hk1 hS => ?_)
      refine W.widen (k := 0) (n := 0) (Nat.le_of_ble_eq_true rfl) (Nat.le_of_ble_eq_true rfl) ?_
      obtain ⟨cl_66, f_67, hf_69, hP1, hK1, hD1⟩ := hB
      rw [ht] at hP1
      have hK1 := va_K.moved hvm.symm hK1
      obtain ⟨hP, hD⟩ := va_join (wr := []) (w1 := [(h0, .inr (8, [.ref e0, .int (nI cl_66), .ref e2, .int (nI ol), .int i4, .int i5, .int i6, .int i7])), (e0, .inl (k0, 60, .inl f_67)), (e2, .inl (k2, 60, .inl g0))]) hP hD [0, 1, 2] [] rfl rfl (by decide) (by decide) hk1 hFc hP1 hD1
      have hK := (hK.sub (tys' := []) [] rfl).app hK1
      have hP : va_P (dC, dI) vwCl [(h0, .inr (8, [.ref e0, .int (nI cl_66), .ref e2, .int (nI ol), .int i4, .int i5, .int i6, .int i7])), (e0, .inl (k0, 60, .inl f_67)), (e2, .inl (k2, 60, .inl g0))] H := hP
      have hD : va_D A [(h0, .inr (8, [.ref e0, .int (nI cl_66), .ref e2, .int (nI ol), .int i4, .int i5, .int i6, .int i7])), (e0, .inl (k0, 60, .inl f_67)), (e2, .inl (k2, 60, .inl g0))] := hD
      have hK : va_K (dC, dI) vwCl [(k0, .int), (k2, .char)] s := hK
      refine lv_aload_n hx hb dX8_beginsThing_37 rfl (lv_at hl 1 rfl) ?_
      refine lv_iload_n hx hb dX8_beginsThing_38 rfl (lv_at hl 0 rfl) ?_
      refine lv_if_lt (tgt := 46) hx hb dX8_beginsThing_39 (by decide) (fun c_70 => ?_) (fun c_70 => absurd c_70 (fun z => z c_63))
      refine lv_iconst (v := 1) hx hb dX8_beginsThing_46 (by decide) ?_
      refine va_put (D := (dC, dI)) (ci := 8) (v := .int 1) (ty := .int) (C := RX8) (T := TX8) (N := 8) hx hb hts (fun _ hh => (List.mem_cons_of_mem _ (List.mem_append_right _ (List.mem_append_right _ (List.mem_append_right _ (List.mem_append_right _ (List.mem_append_left _ hh))))))) tyX8 tyX8_ok nmX8 hown hK hP hD hS 0 rfl rfl 6 (by decide) (hts (.fieldLink RX8 32 "TypingPool$Reader" "digits" "I") (List.mem_cons_of_mem _ (List.mem_append_left _ (List.mem_of_getElem? (i := 10) rfl)))) (fun _ h9 => h9) rfl (tyX8_ok 6 (by decide)) rfl rfl (Nat.le_of_ble_eq_true rfl) dX8_beginsThing_47 (fun H locs hP hD hS => ?_)
      have hP : va_P (dC, dI) vwCl [(h0, .inr (8, [.ref e0, .int (nI cl_66), .ref e2, .int (nI ol), .int i4, .int i5, .int 1, .int i7])), (e0, .inl (k0, 60, .inl f_67)), (e2, .inl (k2, 60, .inl g0))] H := hP
      have hD : va_D A [(h0, .inr (8, [.ref e0, .int (nI cl_66), .ref e2, .int (nI ol), .int i4, .int i5, .int 1, .int i7])), (e0, .inl (k0, 60, .inl f_67)), (e2, .inl (k2, 60, .inl g0))] := hD
      refine lv_aload_n hx hb dX8_beginsThing_50 rfl (lv_at hl 1 rfl) ?_
      refine lv_iconst (v := 0) hx hb dX8_beginsThing_51 (by decide) ?_
      refine va_put (D := (dC, dI)) (ci := 8) (v := .int 0) (ty := .boolean) (C := RX8) (T := TX8) (N := 8) hx hb hts (fun _ hh => (List.mem_cons_of_mem _ (List.mem_append_right _ (List.mem_append_right _ (List.mem_append_right _ (List.mem_append_right _ (List.mem_append_left _ hh))))))) tyX8 tyX8_ok nmX8 hown hK hP hD hS 0 rfl rfl 7 (by decide) (hts (.fieldLink RX8 35 "TypingPool$Reader" "wantsThing" "Z") (List.mem_cons_of_mem _ (List.mem_append_left _ (List.mem_of_getElem? (i := 11) rfl)))) (fun _ h9 => h9) rfl (tyX8_ok 7 (by decide)) rfl rfl (Nat.le_of_ble_eq_true rfl) dX8_beginsThing_52 (fun H locs hP hD hS => ?_)
      have hP : va_P (dC, dI) vwCl [(h0, .inr (8, [.ref e0, .int (nI cl_66), .ref e2, .int (nI ol), .int i4, .int i5, .int 1, .int 0])), (e0, .inl (k0, 60, .inl f_67)), (e2, .inl (k2, 60, .inl g0))] H := hP
      have hD : va_D A [(h0, .inr (8, [.ref e0, .int (nI cl_66), .ref e2, .int (nI ol), .int i4, .int i5, .int 1, .int 0])), (e0, .inl (k0, 60, .inl f_67)), (e2, .inl (k2, 60, .inl g0))] := hD
      refine lv_iconst (v := 1) hx hb dX8_beginsThing_55 (by decide) ?_
      have hP9 := hP.sub (ws' := [(h0, .inr (8, [.ref e0, .int (nI cl_66), .ref e2, .int (nI ol), .int i4, .int i5, .int 1, .int 0])), (e0, .inl (k0, 60, .inl f_67)), (e2, .inl (k2, 60, .inl g0))]) [0, 1, 2] rfl
      have hD9 := hD.sub (ws' := [(h0, .inr (8, [.ref e0, .int (nI cl_66), .ref e2, .int (nI ol), .int i4, .int i5, .int 1, .int 0])), (e0, .inl (k0, 60, .inl f_67)), (e2, .inl (k2, 60, .inl g0))]) [0, 1, 2] (by decide) rfl
      have hK9 := hK.sub (tys' := [(k0, .int), (k2, .char)]) [0, 1] rfl
      exact W.zret (v := 1) hx hb hr (by decide) (fun t ht hW => ⟨⟨1, 1, rfl, rfl, Or.inl ⟨cl_66, ol, i4, i5, 1, 0, f_67, g0, rfl, hf_69, (by omega), by rw [ht]; exact hP9, va_K.moved hW.alike hK9, hD9⟩⟩, hS.F ht⟩) hS.2.2 dX8_beginsThing_56
    · refine lv_sipush (v := 10000) hx hb dX8_beginsThing_22 (by decide) ?_
      refine lv_iload_n hx hb dX8_beginsThing_25 rfl (lv_at hl 0 rfl) ?_
      refine lv_iadd hx hb dX8_beginsThing_26 ?_
      refine lv_topi (fun x_71 ex_71 => ?_)
      refine lv_goto (tgt := 34) hx hb dX8_beginsThing_27 (by decide) ?_
      have hPc := hP.sub (ws' := [(h0, .inr (8, [.ref e0, .int (nI cl), .ref e2, .int (nI ol), .int i4, .int i5, .int i6, .int i7])), (e0, .inl (k0, 60, .inl f0)), (e2, .inl (k2, 60, .inl g0))]) [0, 1, 2] rfl
      have hDc := hD.sub (ws' := [(h0, .inr (8, [.ref e0, .int (nI cl), .ref e2, .int (nI ol), .int i4, .int i5, .int i6, .int i7])), (e0, .inl (k0, 60, .inl f0)), (e2, .inl (k2, 60, .inl g0))]) [0, 1, 2] (by decide) rfl
      have hKc := hK.sub (tys' := [(k0, .int), (k2, .char)]) [0, 1] rfl
      have hFc := va_free (wc := [(h0, .inr (8, [.ref e0, .int (nI cl), .ref e2, .int (nI ol), .int i4, .int i5, .int i6, .int i7])), (e0, .inl (k0, 60, .inl f0)), (e2, .inl (k2, 60, .inl g0))]) hD hS hA [0, 1, 2] rfl
      refine va_callv (va_runV (As := [.int x_71]) (rest := []) ⟨hx, hb, hml, hown, hts⟩ (o_r_write l dC dI ad av H.size h0 e0 e2 cl ol k0 k2 f0 g0 i4 i5 i6 i7 x_71 (by omega) (by omega)) (cwV 1 hts (gi_4 (List.mem_cons_of_mem _ (List.mem_append_left _ (List.mem_of_getElem? (i := 7) rfl))) (List.mem_cons_of_mem _ (List.mem_append_left _ (List.mem_of_getElem? (i := 8) rfl))) (List.mem_cons_of_mem _ (List.mem_append_left _ (List.mem_of_getElem? (i := 9) rfl))) (List.mem_cons_of_mem _ (List.mem_append_left _ (List.mem_of_getElem? (i := 6) rfl))) (fun _ hh => (List.mem_cons_of_mem _ (List.mem_append_right _ (List.mem_append_right _ (List.mem_append_right _ (List.mem_append_left _ hh)))))) gd_o_r_write) rfl rfl rfl (by decide +kernel) ⟨Nat.le_of_ble_eq_true rfl, Nat.le_of_ble_eq_true rfl⟩) ⟨pr_blind, va_recv hKc hPc (ci := 8) (q0 := 0) rfl rfl, pr_use hPc hKc hDc hFc hS hM⟩ rfl rfl hl.1 rfl (lv_room (Nat.le_of_ble_eq_true rfl)) dX8_beginsThing_34 ⟨Nat.le_of_ble_eq_true rfl, Nat.le_of_ble_eq_true rfl⟩) hS (fun q _ h => hFc q h) hFc (fun u t H locs ht hvm hw hB hz1 hk1 hS => ?_)
      refine W.widen (k := 0) (n := 0) (Nat.le_of_ble_eq_true rfl) (Nat.le_of_ble_eq_true rfl) ?_
      obtain ⟨cl_73, f_74, hf_76, hP1, hK1, hD1⟩ := hB
      rw [ht] at hP1
      have hK1 := va_K.moved hvm.symm hK1
      obtain ⟨hP, hD⟩ := va_join (wr := []) (w1 := [(h0, .inr (8, [.ref e0, .int (nI cl_73), .ref e2, .int (nI ol), .int i4, .int i5, .int i6, .int i7])), (e0, .inl (k0, 60, .inl f_74)), (e2, .inl (k2, 60, .inl g0))]) hP hD [0, 1, 2] [] rfl rfl (by decide) (by decide) hk1 hFc hP1 hD1
      have hK := (hK.sub (tys' := []) [] rfl).app hK1
      have hP : va_P (dC, dI) vwCl [(h0, .inr (8, [.ref e0, .int (nI cl_73), .ref e2, .int (nI ol), .int i4, .int i5, .int i6, .int i7])), (e0, .inl (k0, 60, .inl f_74)), (e2, .inl (k2, 60, .inl g0))] H := hP
      have hD : va_D A [(h0, .inr (8, [.ref e0, .int (nI cl_73), .ref e2, .int (nI ol), .int i4, .int i5, .int i6, .int i7])), (e0, .inl (k0, 60, .inl f_74)), (e2, .inl (k2, 60, .inl g0))] := hD
      have hK : va_K (dC, dI) vwCl [(k0, .int), (k2, .char)] s := hK
      refine lv_aload_n hx hb dX8_beginsThing_37 rfl (lv_at hl 1 rfl) ?_
      refine lv_iload_n hx hb dX8_beginsThing_38 rfl (lv_at hl 0 rfl) ?_
      refine lv_if_lt (tgt := 46) hx hb dX8_beginsThing_39 (by decide) (fun c_77 => absurd c_77 c_63) (fun c_77 => ?_)
      refine lv_iconst (v := 0) hx hb dX8_beginsThing_42 (by decide) ?_
      refine lv_goto (tgt := 47) hx hb dX8_beginsThing_43 (by decide) ?_
      refine va_put (D := (dC, dI)) (ci := 8) (v := .int 0) (ty := .int) (C := RX8) (T := TX8) (N := 8) hx hb hts (fun _ hh => (List.mem_cons_of_mem _ (List.mem_append_right _ (List.mem_append_right _ (List.mem_append_right _ (List.mem_append_right _ (List.mem_append_left _ hh))))))) tyX8 tyX8_ok nmX8 hown hK hP hD hS 0 rfl rfl 6 (by decide) (hts (.fieldLink RX8 32 "TypingPool$Reader" "digits" "I") (List.mem_cons_of_mem _ (List.mem_append_left _ (List.mem_of_getElem? (i := 10) rfl)))) (fun _ h9 => h9) rfl (tyX8_ok 6 (by decide)) rfl rfl (Nat.le_of_ble_eq_true rfl) dX8_beginsThing_47 (fun H locs hP hD hS => ?_)
      have hP : va_P (dC, dI) vwCl [(h0, .inr (8, [.ref e0, .int (nI cl_73), .ref e2, .int (nI ol), .int i4, .int i5, .int 0, .int i7])), (e0, .inl (k0, 60, .inl f_74)), (e2, .inl (k2, 60, .inl g0))] H := hP
      have hD : va_D A [(h0, .inr (8, [.ref e0, .int (nI cl_73), .ref e2, .int (nI ol), .int i4, .int i5, .int 0, .int i7])), (e0, .inl (k0, 60, .inl f_74)), (e2, .inl (k2, 60, .inl g0))] := hD
      refine lv_aload_n hx hb dX8_beginsThing_50 rfl (lv_at hl 1 rfl) ?_
      refine lv_iconst (v := 0) hx hb dX8_beginsThing_51 (by decide) ?_
      refine va_put (D := (dC, dI)) (ci := 8) (v := .int 0) (ty := .boolean) (C := RX8) (T := TX8) (N := 8) hx hb hts (fun _ hh => (List.mem_cons_of_mem _ (List.mem_append_right _ (List.mem_append_right _ (List.mem_append_right _ (List.mem_append_right _ (List.mem_append_left _ hh))))))) tyX8 tyX8_ok nmX8 hown hK hP hD hS 0 rfl rfl 7 (by decide) (hts (.fieldLink RX8 35 "TypingPool$Reader" "wantsThing" "Z") (List.mem_cons_of_mem _ (List.mem_append_left _ (List.mem_of_getElem? (i := 11) rfl)))) (fun _ h9 => h9) rfl (tyX8_ok 7 (by decide)) rfl rfl (Nat.le_of_ble_eq_true rfl) dX8_beginsThing_52 (fun H locs hP hD hS => ?_)
      have hP : va_P (dC, dI) vwCl [(h0, .inr (8, [.ref e0, .int (nI cl_73), .ref e2, .int (nI ol), .int i4, .int i5, .int 0, .int 0])), (e0, .inl (k0, 60, .inl f_74)), (e2, .inl (k2, 60, .inl g0))] H := hP
      have hD : va_D A [(h0, .inr (8, [.ref e0, .int (nI cl_73), .ref e2, .int (nI ol), .int i4, .int i5, .int 0, .int 0])), (e0, .inl (k0, 60, .inl f_74)), (e2, .inl (k2, 60, .inl g0))] := hD
      refine lv_iconst (v := 1) hx hb dX8_beginsThing_55 (by decide) ?_
      have hP9 := hP.sub (ws' := [(h0, .inr (8, [.ref e0, .int (nI cl_73), .ref e2, .int (nI ol), .int i4, .int i5, .int 0, .int 0])), (e0, .inl (k0, 60, .inl f_74)), (e2, .inl (k2, 60, .inl g0))]) [0, 1, 2] rfl
      have hD9 := hD.sub (ws' := [(h0, .inr (8, [.ref e0, .int (nI cl_73), .ref e2, .int (nI ol), .int i4, .int i5, .int 0, .int 0])), (e0, .inl (k0, 60, .inl f_74)), (e2, .inl (k2, 60, .inl g0))]) [0, 1, 2] (by decide) rfl
      have hK9 := hK.sub (tys' := [(k0, .int), (k2, .char)]) [0, 1] rfl
      exact W.zret (v := 1) hx hb hr (by decide) (fun t ht hW => ⟨⟨1, 1, rfl, rfl, Or.inl ⟨cl_73, ol, i4, i5, 0, 0, f_74, g0, rfl, hf_76, (by omega), by rw [ht]; exact hP9, va_K.moved hW.alike hK9, hD9⟩⟩, hS.F ht⟩) hS.2.2 dX8_beginsThing_56
  · refine lq_top (v := 0) hre_61 ?_
    rw [ht] at hP1
    have hK1 := va_K.moved hvm.symm hK1
    obtain ⟨hP, hD⟩ := va_join (wr := [(h0, .inr (8, [.ref e0, .int (nI cl), .ref e2, .int (nI ol), .int i4, .int i5, .int i6, .int i7])), (e0, .inl (k0, 60, .inl f0)), (e2, .inl (k2, 60, .inl g0))]) (w1 := []) hP hD [] [0, 1, 2] rfl rfl (by decide) (by decide) hk1 hFc hP1 hD1
    have hK := (hK.sub (tys' := [(k0, .int), (k2, .char)]) [0, 1] rfl).app hK1
    have hP : va_P (dC, dI) vwCl [(h0, .inr (8, [.ref e0, .int (nI cl), .ref e2, .int (nI ol), .int i4, .int i5, .int i6, .int i7])), (e0, .inl (k0, 60, .inl f0)), (e2, .inl (k2, 60, .inl g0))] H := hP
    have hD : va_D A [(h0, .inr (8, [.ref e0, .int (nI cl), .ref e2, .int (nI ol), .int i4, .int i5, .int i6, .int i7])), (e0, .inl (k0, 60, .inl f0)), (e2, .inl (k2, 60, .inl g0))] := hD
    have hK : va_K (dC, dI) vwCl [(k0, .int), (k2, .char)] s := hK
    refine lv_if_ne (tgt := 17) hx hb dX8_beginsThing_10 (by decide) (fun c_78 => absurd c_78 (fun z => z (by decide))) (fun c_78 => ?_)
    refine lv_iload_n hx hb dX8_beginsThing_13 rfl (lv_at hl 0 rfl) ?_
    refine lv_if_lt (tgt := 57) hx hb dX8_beginsThing_14 (by decide) (fun c_79 => ?_) (fun c_79 => ?_)
    · refine lv_iload_n hx hb dX8_beginsThing_57 rfl (lv_at hl 2 rfl) ?_
      refine lv_bipush (v := 33) hx hb dX8_beginsThing_58 (by decide) ?_
      refine lv_icmp_eq (tgt := 69) hx hb dX8_beginsThing_60 (by decide) (fun c_80 => ?_) (fun c_80 => ?_)
      · refine lv_aload_n hx hb dX8_beginsThing_69 rfl (lv_at hl 1 rfl) ?_
        refine lv_iload_n hx hb dX8_beginsThing_70 rfl (lv_at hl 2 rfl) ?_
        refine lv_bipush (v := 45) hx hb dX8_beginsThing_71 (by decide) ?_
        refine lv_icmp_ne (tgt := 81) hx hb dX8_beginsThing_73 (by decide) (fun c_81 => ?_) (fun c_81 => ?_)
        · refine lv_iload_n hx hb dX8_beginsThing_81 rfl (lv_at hl 2 rfl) ?_
          have hPc := hP.sub (ws' := [(h0, .inr (8, [.ref e0, .int (nI cl), .ref e2, .int (nI ol), .int i4, .int i5, .int i6, .int i7])), (e0, .inl (k0, 60, .inl f0)), (e2, .inl (k2, 60, .inl g0))]) [0, 1, 2] rfl
          have hDc := hD.sub (ws' := [(h0, .inr (8, [.ref e0, .int (nI cl), .ref e2, .int (nI ol), .int i4, .int i5, .int i6, .int i7])), (e0, .inl (k0, 60, .inl f0)), (e2, .inl (k2, 60, .inl g0))]) [0, 1, 2] (by decide) rfl
          have hKc := hK.sub (tys' := [(k0, .int), (k2, .char)]) [0, 1] rfl
          have hFc := va_free (wc := [(h0, .inr (8, [.ref e0, .int (nI cl), .ref e2, .int (nI ol), .int i4, .int i5, .int i6, .int i7])), (e0, .inl (k0, 60, .inl f0)), (e2, .inl (k2, 60, .inl g0))]) hD hS hA [0, 1, 2] rfl
          refine va_callv (va_runV (As := [.int p0]) (rest := []) ⟨hx, hb, hml, hown, hts⟩ (o_r_keepOpen l dC dI ad av H.size h0 e0 e2 cl ol k0 k2 f0 g0 i4 i5 i6 i7 p0 (by omega) (by omega)) (cwV 1 hts (gi_4 (List.mem_cons_of_mem _ (List.mem_append_left _ (List.mem_of_getElem? (i := 12) rfl))) (List.mem_cons_of_mem _ (List.mem_append_left _ (List.mem_of_getElem? (i := 13) rfl))) (List.mem_cons_of_mem _ (List.mem_append_left _ (List.mem_of_getElem? (i := 14) rfl))) (List.mem_cons_of_mem _ (List.mem_append_left _ (List.mem_of_getElem? (i := 6) rfl))) (fun _ hh => (List.mem_cons_of_mem _ (List.mem_append_right _ (List.mem_append_right _ (List.mem_append_right _ (List.mem_append_right _ (List.mem_append_right _ (List.mem_append_left _ hh)))))))) gd_o_r_keepOpen) rfl rfl rfl (by decide +kernel) ⟨Nat.le_of_ble_eq_true rfl, Nat.le_of_ble_eq_true rfl⟩) ⟨pr_blind, va_recv hKc hPc (ci := 8) (q0 := 0) rfl rfl, pr_use hPc hKc hDc hFc hS hM⟩ rfl rfl hl.1 rfl (lv_room (Nat.le_of_ble_eq_true rfl)) dX8_beginsThing_82 ⟨Nat.le_of_ble_eq_true rfl, Nat.le_of_ble_eq_true rfl⟩) hS (fun q _ h => hFc q h) hFc (fun u t H locs ht hvm hw hB hz1 hk1 hS => ?_)
          refine W.widen (k := 0) (n := 0) (Nat.le_of_ble_eq_true rfl) (Nat.le_of_ble_eq_true rfl) ?_
          obtain ⟨ol_83, g_84, hf_86, hP1, hK1, hD1⟩ := hB
          rw [ht] at hP1
          have hK1 := va_K.moved hvm.symm hK1
          obtain ⟨hP, hD⟩ := va_join (wr := []) (w1 := [(h0, .inr (8, [.ref e0, .int (nI cl), .ref e2, .int (nI ol_83), .int i4, .int i5, .int i6, .int i7])), (e0, .inl (k0, 60, .inl f0)), (e2, .inl (k2, 60, .inl g_84))]) hP hD [0, 1, 2] [] rfl rfl (by decide) (by decide) hk1 hFc hP1 hD1
          have hK := (hK.sub (tys' := []) [] rfl).app hK1
          have hP : va_P (dC, dI) vwCl [(h0, .inr (8, [.ref e0, .int (nI cl), .ref e2, .int (nI ol_83), .int i4, .int i5, .int i6, .int i7])), (e0, .inl (k0, 60, .inl f0)), (e2, .inl (k2, 60, .inl g_84))] H := hP
          have hD : va_D A [(h0, .inr (8, [.ref e0, .int (nI cl), .ref e2, .int (nI ol_83), .int i4, .int i5, .int i6, .int i7])), (e0, .inl (k0, 60, .inl f0)), (e2, .inl (k2, 60, .inl g_84))] := hD
          have hK : va_K (dC, dI) vwCl [(k0, .int), (k2, .char)] s := hK
          refine lv_iconst (v := 1) hx hb dX8_beginsThing_85 (by decide) ?_
          have hP9 := hP.sub (ws' := [(h0, .inr (8, [.ref e0, .int (nI cl), .ref e2, .int (nI ol_83), .int i4, .int i5, .int i6, .int i7])), (e0, .inl (k0, 60, .inl f0)), (e2, .inl (k2, 60, .inl g_84))]) [0, 1, 2] rfl
          have hD9 := hD.sub (ws' := [(h0, .inr (8, [.ref e0, .int (nI cl), .ref e2, .int (nI ol_83), .int i4, .int i5, .int i6, .int i7])), (e0, .inl (k0, 60, .inl f0)), (e2, .inl (k2, 60, .inl g_84))]) [0, 1, 2] (by decide) rfl
          have hK9 := hK.sub (tys' := [(k0, .int), (k2, .char)]) [0, 1] rfl
          exact W.zret (v := 1) hx hb hr (by decide) (fun t ht hW => ⟨⟨1, 1, rfl, rfl, Or.inl ⟨cl, ol_83, i4, i5, i6, i7, f0, g_84, rfl, (by omega), hf_86, by rw [ht]; exact hP9, va_K.moved hW.alike hK9, hD9⟩⟩, hS.F ht⟩) hS.2.2 dX8_beginsThing_86
        · refine lv_bipush (v := 126) hx hb dX8_beginsThing_76 (by decide) ?_
          refine lv_goto (tgt := 82) hx hb dX8_beginsThing_78 (by decide) ?_
          have hPc := hP.sub (ws' := [(h0, .inr (8, [.ref e0, .int (nI cl), .ref e2, .int (nI ol), .int i4, .int i5, .int i6, .int i7])), (e0, .inl (k0, 60, .inl f0)), (e2, .inl (k2, 60, .inl g0))]) [0, 1, 2] rfl
          have hDc := hD.sub (ws' := [(h0, .inr (8, [.ref e0, .int (nI cl), .ref e2, .int (nI ol), .int i4, .int i5, .int i6, .int i7])), (e0, .inl (k0, 60, .inl f0)), (e2, .inl (k2, 60, .inl g0))]) [0, 1, 2] (by decide) rfl
          have hKc := hK.sub (tys' := [(k0, .int), (k2, .char)]) [0, 1] rfl
          have hFc := va_free (wc := [(h0, .inr (8, [.ref e0, .int (nI cl), .ref e2, .int (nI ol), .int i4, .int i5, .int i6, .int i7])), (e0, .inl (k0, 60, .inl f0)), (e2, .inl (k2, 60, .inl g0))]) hD hS hA [0, 1, 2] rfl
          refine va_callv (va_runV (As := [.int 126]) (rest := []) ⟨hx, hb, hml, hown, hts⟩ (o_r_keepOpen l dC dI ad av H.size h0 e0 e2 cl ol k0 k2 f0 g0 i4 i5 i6 i7 126 (by omega) (by omega)) (cwV 1 hts (gi_4 (List.mem_cons_of_mem _ (List.mem_append_left _ (List.mem_of_getElem? (i := 12) rfl))) (List.mem_cons_of_mem _ (List.mem_append_left _ (List.mem_of_getElem? (i := 13) rfl))) (List.mem_cons_of_mem _ (List.mem_append_left _ (List.mem_of_getElem? (i := 14) rfl))) (List.mem_cons_of_mem _ (List.mem_append_left _ (List.mem_of_getElem? (i := 6) rfl))) (fun _ hh => (List.mem_cons_of_mem _ (List.mem_append_right _ (List.mem_append_right _ (List.mem_append_right _ (List.mem_append_right _ (List.mem_append_right _ (List.mem_append_left _ hh)))))))) gd_o_r_keepOpen) rfl rfl rfl (by decide +kernel) ⟨Nat.le_of_ble_eq_true rfl, Nat.le_of_ble_eq_true rfl⟩) ⟨pr_blind, va_recv hKc hPc (ci := 8) (q0 := 0) rfl rfl, pr_use hPc hKc hDc hFc hS hM⟩ rfl rfl hl.1 rfl (lv_room (Nat.le_of_ble_eq_true rfl)) dX8_beginsThing_82 ⟨Nat.le_of_ble_eq_true rfl, Nat.le_of_ble_eq_true rfl⟩) hS (fun q _ h => hFc q h) hFc (fun u t H locs ht hvm hw hB hz1 hk1 hS => ?_)
          refine W.widen (k := 0) (n := 0) (Nat.le_of_ble_eq_true rfl) (Nat.le_of_ble_eq_true rfl) ?_
          obtain ⟨ol_88, g_89, hf_91, hP1, hK1, hD1⟩ := hB
          rw [ht] at hP1
          have hK1 := va_K.moved hvm.symm hK1
          obtain ⟨hP, hD⟩ := va_join (wr := []) (w1 := [(h0, .inr (8, [.ref e0, .int (nI cl), .ref e2, .int (nI ol_88), .int i4, .int i5, .int i6, .int i7])), (e0, .inl (k0, 60, .inl f0)), (e2, .inl (k2, 60, .inl g_89))]) hP hD [0, 1, 2] [] rfl rfl (by decide) (by decide) hk1 hFc hP1 hD1
          have hK := (hK.sub (tys' := []) [] rfl).app hK1
          have hP : va_P (dC, dI) vwCl [(h0, .inr (8, [.ref e0, .int (nI cl), .ref e2, .int (nI ol_88), .int i4, .int i5, .int i6, .int i7])), (e0, .inl (k0, 60, .inl f0)), (e2, .inl (k2, 60, .inl g_89))] H := hP
          have hD : va_D A [(h0, .inr (8, [.ref e0, .int (nI cl), .ref e2, .int (nI ol_88), .int i4, .int i5, .int i6, .int i7])), (e0, .inl (k0, 60, .inl f0)), (e2, .inl (k2, 60, .inl g_89))] := hD
          have hK : va_K (dC, dI) vwCl [(k0, .int), (k2, .char)] s := hK
          refine lv_iconst (v := 1) hx hb dX8_beginsThing_85 (by decide) ?_
          have hP9 := hP.sub (ws' := [(h0, .inr (8, [.ref e0, .int (nI cl), .ref e2, .int (nI ol_88), .int i4, .int i5, .int i6, .int i7])), (e0, .inl (k0, 60, .inl f0)), (e2, .inl (k2, 60, .inl g_89))]) [0, 1, 2] rfl
          have hD9 := hD.sub (ws' := [(h0, .inr (8, [.ref e0, .int (nI cl), .ref e2, .int (nI ol_88), .int i4, .int i5, .int i6, .int i7])), (e0, .inl (k0, 60, .inl f0)), (e2, .inl (k2, 60, .inl g_89))]) [0, 1, 2] (by decide) rfl
          have hK9 := hK.sub (tys' := [(k0, .int), (k2, .char)]) [0, 1] rfl
          exact W.zret (v := 1) hx hb hr (by decide) (fun t ht hW => ⟨⟨1, 1, rfl, rfl, Or.inl ⟨cl, ol_88, i4, i5, i6, i7, f0, g_89, rfl, (by omega), hf_91, by rw [ht]; exact hP9, va_K.moved hW.alike hK9, hD9⟩⟩, hS.F ht⟩) hS.2.2 dX8_beginsThing_86
      · refine lv_iload_n hx hb dX8_beginsThing_63 rfl (lv_at hl 2 rfl) ?_
        refine lv_bipush (v := 45) hx hb dX8_beginsThing_64 (by decide) ?_
        refine lv_icmp_ne (tgt := 87) hx hb dX8_beginsThing_66 (by decide) (fun c_92 => ?_) (fun c_92 => ?_)
        · refine lv_iload_n hx hb dX8_beginsThing_87 rfl (lv_at hl 2 rfl) ?_
          refine lv_bipush (v := 40) hx hb dX8_beginsThing_88 (by decide) ?_
          refine lv_icmp_ne (tgt := 102) hx hb dX8_beginsThing_90 (by decide) (fun c_93 => ?_) (fun c_93 => ?_)
          · refine lv_iconst (v := 0) hx hb dX8_beginsThing_102 (by decide) ?_
            have hP9 := hP.sub (ws' := [(h0, .inr (8, [.ref e0, .int (nI cl), .ref e2, .int (nI ol), .int i4, .int i5, .int i6, .int i7])), (e0, .inl (k0, 60, .inl f0)), (e2, .inl (k2, 60, .inl g0))]) [0, 1, 2] rfl
            have hD9 := hD.sub (ws' := [(h0, .inr (8, [.ref e0, .int (nI cl), .ref e2, .int (nI ol), .int i4, .int i5, .int i6, .int i7])), (e0, .inl (k0, 60, .inl f0)), (e2, .inl (k2, 60, .inl g0))]) [0, 1, 2] (by decide) rfl
            have hK9 := hK.sub (tys' := [(k0, .int), (k2, .char)]) [0, 1] rfl
            exact W.zret (v := 0) hx hb hr (by decide) (fun t ht hW => ⟨⟨0, 0, rfl, rfl, Or.inr (⟨cl, ol, i4, i5, i6, i7, f0, g0, rfl, (by omega), (by omega), by rw [ht]; exact hP9, va_K.moved hW.alike hK9, hD9⟩)⟩, hS.F ht⟩) hS.2.2 dX8_beginsThing_103
          · refine lv_aload_n hx hb dX8_beginsThing_93 rfl (lv_at hl 1 rfl) ?_
            refine va_get (D := (dC, dI)) (ci := 8) (v := .int i4) (C := RX8) (T := TX8) (N := 8) hx hb hts (fun _ hh => (List.mem_cons_of_mem _ (List.mem_append_right _ (List.mem_append_right _ (List.mem_append_right _ (List.mem_append_right _ (List.mem_append_left _ hh))))))) hown hK hP 0 rfl rfl 4 (by decide) (hts (.fieldLink RX8 26 "TypingPool$Reader" "depth" "I") (List.mem_cons_of_mem _ (List.mem_append_left _ (List.mem_of_getElem? (i := 15) rfl)))) (fun _ h9 => h9) rfl dX8_beginsThing_94 ?_
            refine lv_bipush (v := 6) hx hb dX8_beginsThing_97 (by decide) ?_
            refine lv_icmp_lt (tgt := 104) hx hb dX8_beginsThing_99 (by decide) (fun c_94 => ?_) (fun c_94 => ?_)
            · refine lv_aload_n hx hb dX8_beginsThing_104 rfl (lv_at hl 1 rfl) ?_
              refine lv_iload_n hx hb dX8_beginsThing_105 rfl (lv_at hl 2 rfl) ?_
              have hPc := hP.sub (ws' := [(h0, .inr (8, [.ref e0, .int (nI cl), .ref e2, .int (nI ol), .int i4, .int i5, .int i6, .int i7])), (e0, .inl (k0, 60, .inl f0)), (e2, .inl (k2, 60, .inl g0))]) [0, 1, 2] rfl
              have hDc := hD.sub (ws' := [(h0, .inr (8, [.ref e0, .int (nI cl), .ref e2, .int (nI ol), .int i4, .int i5, .int i6, .int i7])), (e0, .inl (k0, 60, .inl f0)), (e2, .inl (k2, 60, .inl g0))]) [0, 1, 2] (by decide) rfl
              have hKc := hK.sub (tys' := [(k0, .int), (k2, .char)]) [0, 1] rfl
              have hFc := va_free (wc := [(h0, .inr (8, [.ref e0, .int (nI cl), .ref e2, .int (nI ol), .int i4, .int i5, .int i6, .int i7])), (e0, .inl (k0, 60, .inl f0)), (e2, .inl (k2, 60, .inl g0))]) hD hS hA [0, 1, 2] rfl
              refine va_callv (va_runV (As := [.int p0]) (rest := []) ⟨hx, hb, hml, hown, hts⟩ (o_r_keepOpen l dC dI ad av H.size h0 e0 e2 cl ol k0 k2 f0 g0 i4 i5 i6 i7 p0 (by omega) (by omega)) (cwV 1 hts (gi_4 (List.mem_cons_of_mem _ (List.mem_append_left _ (List.mem_of_getElem? (i := 12) rfl))) (List.mem_cons_of_mem _ (List.mem_append_left _ (List.mem_of_getElem? (i := 13) rfl))) (List.mem_cons_of_mem _ (List.mem_append_left _ (List.mem_of_getElem? (i := 14) rfl))) (List.mem_cons_of_mem _ (List.mem_append_left _ (List.mem_of_getElem? (i := 6) rfl))) (fun _ hh => (List.mem_cons_of_mem _ (List.mem_append_right _ (List.mem_append_right _ (List.mem_append_right _ (List.mem_append_right _ (List.mem_append_right _ (List.mem_append_left _ hh)))))))) gd_o_r_keepOpen) rfl rfl rfl (by decide +kernel) ⟨Nat.le_of_ble_eq_true rfl, Nat.le_of_ble_eq_true rfl⟩) ⟨pr_blind, va_recv hKc hPc (ci := 8) (q0 := 0) rfl rfl, pr_use hPc hKc hDc hFc hS hM⟩ rfl rfl hl.1 rfl (lv_room (Nat.le_of_ble_eq_true rfl)) dX8_beginsThing_106 ⟨Nat.le_of_ble_eq_true rfl, Nat.le_of_ble_eq_true rfl⟩) hS (fun q _ h => hFc q h) hFc (fun u t H locs ht hvm hw hB hz1 hk1 hS => ?_)
              refine W.widen (k := 0) (n := 0) (Nat.le_of_ble_eq_true rfl) (Nat.le_of_ble_eq_true rfl) ?_
              obtain ⟨ol_96, g_97, hf_99, hP1, hK1, hD1⟩ := hB
              rw [ht] at hP1
              have hK1 := va_K.moved hvm.symm hK1
              obtain ⟨hP, hD⟩ := va_join (wr := []) (w1 := [(h0, .inr (8, [.ref e0, .int (nI cl), .ref e2, .int (nI ol_96), .int i4, .int i5, .int i6, .int i7])), (e0, .inl (k0, 60, .inl f0)), (e2, .inl (k2, 60, .inl g_97))]) hP hD [0, 1, 2] [] rfl rfl (by decide) (by decide) hk1 hFc hP1 hD1
              have hK := (hK.sub (tys' := []) [] rfl).app hK1
              have hP : va_P (dC, dI) vwCl [(h0, .inr (8, [.ref e0, .int (nI cl), .ref e2, .int (nI ol_96), .int i4, .int i5, .int i6, .int i7])), (e0, .inl (k0, 60, .inl f0)), (e2, .inl (k2, 60, .inl g_97))] H := hP
              have hD : va_D A [(h0, .inr (8, [.ref e0, .int (nI cl), .ref e2, .int (nI ol_96), .int i4, .int i5, .int i6, .int i7])), (e0, .inl (k0, 60, .inl f0)), (e2, .inl (k2, 60, .inl g_97))] := hD
              have hK : va_K (dC, dI) vwCl [(k0, .int), (k2, .char)] s := hK
              refine lv_aload_n hx hb dX8_beginsThing_109 rfl (lv_at hl 1 rfl) ?_
              refine lv_dup hx hb dX8_beginsThing_110 rfl ?_
              refine va_get (D := (dC, dI)) (ci := 8) (v := .int i4) (C := RX8) (T := TX8) (N := 8) hx hb hts (fun _ hh => (List.mem_cons_of_mem _ (List.mem_append_right _ (List.mem_append_right _ (List.mem_append_right _ (List.mem_append_right _ (List.mem_append_left _ hh))))))) hown hK hP 0 rfl rfl 4 (by decide) (hts (.fieldLink RX8 26 "TypingPool$Reader" "depth" "I") (List.mem_cons_of_mem _ (List.mem_append_left _ (List.mem_of_getElem? (i := 15) rfl)))) (fun _ h9 => h9) rfl dX8_beginsThing_111 ?_
              refine lv_iconst (v := 1) hx hb dX8_beginsThing_114 (by decide) ?_
              refine lv_iadd hx hb dX8_beginsThing_115 ?_
              refine lv_topi (fun x_100 ex_100 => ?_)
              refine va_put (D := (dC, dI)) (ci := 8) (v := .int x_100) (ty := .int) (C := RX8) (T := TX8) (N := 8) hx hb hts (fun _ hh => (List.mem_cons_of_mem _ (List.mem_append_right _ (List.mem_append_right _ (List.mem_append_right _ (List.mem_append_right _ (List.mem_append_left _ hh))))))) tyX8 tyX8_ok nmX8 hown hK hP hD hS 0 rfl rfl 4 (by decide) (hts (.fieldLink RX8 26 "TypingPool$Reader" "depth" "I") (List.mem_cons_of_mem _ (List.mem_append_left _ (List.mem_of_getElem? (i := 15) rfl)))) (fun _ h9 => h9) rfl (tyX8_ok 4 (by decide)) rfl rfl (Nat.le_of_ble_eq_true rfl) dX8_beginsThing_116 (fun H locs hP hD hS => ?_)
              have hP : va_P (dC, dI) vwCl [(h0, .inr (8, [.ref e0, .int (nI cl), .ref e2, .int (nI ol_96), .int x_100, .int i5, .int i6, .int i7])), (e0, .inl (k0, 60, .inl f0)), (e2, .inl (k2, 60, .inl g_97))] H := hP
              have hD : va_D A [(h0, .inr (8, [.ref e0, .int (nI cl), .ref e2, .int (nI ol_96), .int x_100, .int i5, .int i6, .int i7])), (e0, .inl (k0, 60, .inl f0)), (e2, .inl (k2, 60, .inl g_97))] := hD
              refine lv_aload_n hx hb dX8_beginsThing_119 rfl (lv_at hl 1 rfl) ?_
              refine lv_dup hx hb dX8_beginsThing_120 rfl ?_
              refine va_get (D := (dC, dI)) (ci := 8) (v := .int i5) (C := RX8) (T := TX8) (N := 8) hx hb hts (fun _ hh => (List.mem_cons_of_mem _ (List.mem_append_right _ (List.mem_append_right _ (List.mem_append_right _ (List.mem_append_right _ (List.mem_append_left _ hh))))))) hown hK hP 0 rfl rfl 5 (by decide) (hts (.fieldLink RX8 29 "TypingPool$Reader" "compared" "I") (List.mem_cons_of_mem _ (List.mem_append_left _ (List.mem_of_getElem? (i := 16) rfl)))) (fun _ h9 => h9) rfl dX8_beginsThing_121 ?_
              refine lv_iconst (v := 1) hx hb dX8_beginsThing_124 (by decide) ?_
              refine lv_aload_n hx hb dX8_beginsThing_125 rfl (lv_at hl 1 rfl) ?_
              refine va_get (D := (dC, dI)) (ci := 8) (v := .int x_100) (C := RX8) (T := TX8) (N := 8) hx hb hts (fun _ hh => (List.mem_cons_of_mem _ (List.mem_append_right _ (List.mem_append_right _ (List.mem_append_right _ (List.mem_append_right _ (List.mem_append_left _ hh))))))) hown hK hP 0 rfl rfl 4 (by decide) (hts (.fieldLink RX8 26 "TypingPool$Reader" "depth" "I") (List.mem_cons_of_mem _ (List.mem_append_left _ (List.mem_of_getElem? (i := 15) rfl)))) (fun _ h9 => h9) rfl dX8_beginsThing_126 ?_
              refine lv_ishl hx hb dX8_beginsThing_129 ?_
              refine lv_topi (fun x_101 ex_101 => ?_)
              refine lv_iconst (v := (-1)) hx hb dX8_beginsThing_130 (by decide) ?_
              refine lv_ixor hx hb dX8_beginsThing_131 ?_
              refine lv_topi (fun x_102 ex_102 => ?_)
              refine lv_iand hx hb dX8_beginsThing_132 ?_
              refine lv_topi (fun x_103 ex_103 => ?_)
              refine va_put (D := (dC, dI)) (ci := 8) (v := .int x_103) (ty := .int) (C := RX8) (T := TX8) (N := 8) hx hb hts (fun _ hh => (List.mem_cons_of_mem _ (List.mem_append_right _ (List.mem_append_right _ (List.mem_append_right _ (List.mem_append_right _ (List.mem_append_left _ hh))))))) tyX8 tyX8_ok nmX8 hown hK hP hD hS 0 rfl rfl 5 (by decide) (hts (.fieldLink RX8 29 "TypingPool$Reader" "compared" "I") (List.mem_cons_of_mem _ (List.mem_append_left _ (List.mem_of_getElem? (i := 16) rfl)))) (fun _ h9 => h9) rfl (tyX8_ok 5 (by decide)) rfl rfl (Nat.le_of_ble_eq_true rfl) dX8_beginsThing_133 (fun H locs hP hD hS => ?_)
              have hP : va_P (dC, dI) vwCl [(h0, .inr (8, [.ref e0, .int (nI cl), .ref e2, .int (nI ol_96), .int x_100, .int x_103, .int i6, .int i7])), (e0, .inl (k0, 60, .inl f0)), (e2, .inl (k2, 60, .inl g_97))] H := hP
              have hD : va_D A [(h0, .inr (8, [.ref e0, .int (nI cl), .ref e2, .int (nI ol_96), .int x_100, .int x_103, .int i6, .int i7])), (e0, .inl (k0, 60, .inl f0)), (e2, .inl (k2, 60, .inl g_97))] := hD
              refine lv_iconst (v := 1) hx hb dX8_beginsThing_136 (by decide) ?_
              have hP9 := hP.sub (ws' := [(h0, .inr (8, [.ref e0, .int (nI cl), .ref e2, .int (nI ol_96), .int x_100, .int x_103, .int i6, .int i7])), (e0, .inl (k0, 60, .inl f0)), (e2, .inl (k2, 60, .inl g_97))]) [0, 1, 2] rfl
              have hD9 := hD.sub (ws' := [(h0, .inr (8, [.ref e0, .int (nI cl), .ref e2, .int (nI ol_96), .int x_100, .int x_103, .int i6, .int i7])), (e0, .inl (k0, 60, .inl f0)), (e2, .inl (k2, 60, .inl g_97))]) [0, 1, 2] (by decide) rfl
              have hK9 := hK.sub (tys' := [(k0, .int), (k2, .char)]) [0, 1] rfl
              exact W.zret (v := 1) hx hb hr (by decide) (fun t ht hW => ⟨⟨1, 1, rfl, rfl, Or.inl ⟨cl, ol_96, x_100, x_103, i6, i7, f0, g_97, rfl, (by omega), hf_99, by rw [ht]; exact hP9, va_K.moved hW.alike hK9, hD9⟩⟩, hS.F ht⟩) hS.2.2 dX8_beginsThing_137
            · refine lv_iconst (v := 0) hx hb dX8_beginsThing_102 (by decide) ?_
              have hP9 := hP.sub (ws' := [(h0, .inr (8, [.ref e0, .int (nI cl), .ref e2, .int (nI ol), .int i4, .int i5, .int i6, .int i7])), (e0, .inl (k0, 60, .inl f0)), (e2, .inl (k2, 60, .inl g0))]) [0, 1, 2] rfl
              have hD9 := hD.sub (ws' := [(h0, .inr (8, [.ref e0, .int (nI cl), .ref e2, .int (nI ol), .int i4, .int i5, .int i6, .int i7])), (e0, .inl (k0, 60, .inl f0)), (e2, .inl (k2, 60, .inl g0))]) [0, 1, 2] (by decide) rfl
              have hK9 := hK.sub (tys' := [(k0, .int), (k2, .char)]) [0, 1] rfl
              exact W.zret (v := 0) hx hb hr (by decide) (fun t ht hW => ⟨⟨0, 0, rfl, rfl, Or.inr (⟨cl, ol, i4, i5, i6, i7, f0, g0, rfl, (by omega), (by omega), by rw [ht]; exact hP9, va_K.moved hW.alike hK9, hD9⟩)⟩, hS.F ht⟩) hS.2.2 dX8_beginsThing_103
        · refine lv_aload_n hx hb dX8_beginsThing_69 rfl (lv_at hl 1 rfl) ?_
          refine lv_iload_n hx hb dX8_beginsThing_70 rfl (lv_at hl 2 rfl) ?_
          refine lv_bipush (v := 45) hx hb dX8_beginsThing_71 (by decide) ?_
          refine lv_icmp_ne (tgt := 81) hx hb dX8_beginsThing_73 (by decide) (fun c_104 => absurd c_104 (fun z => z c_92)) (fun c_104 => ?_)
          refine lv_bipush (v := 126) hx hb dX8_beginsThing_76 (by decide) ?_
          refine lv_goto (tgt := 82) hx hb dX8_beginsThing_78 (by decide) ?_
          have hPc := hP.sub (ws' := [(h0, .inr (8, [.ref e0, .int (nI cl), .ref e2, .int (nI ol), .int i4, .int i5, .int i6, .int i7])), (e0, .inl (k0, 60, .inl f0)), (e2, .inl (k2, 60, .inl g0))]) [0, 1, 2] rfl
          have hDc := hD.sub (ws' := [(h0, .inr (8, [.ref e0, .int (nI cl), .ref e2, .int (nI ol), .int i4, .int i5, .int i6, .int i7])), (e0, .inl (k0, 60, .inl f0)), (e2, .inl (k2, 60, .inl g0))]) [0, 1, 2] (by decide) rfl
          have hKc := hK.sub (tys' := [(k0, .int), (k2, .char)]) [0, 1] rfl
          have hFc := va_free (wc := [(h0, .inr (8, [.ref e0, .int (nI cl), .ref e2, .int (nI ol), .int i4, .int i5, .int i6, .int i7])), (e0, .inl (k0, 60, .inl f0)), (e2, .inl (k2, 60, .inl g0))]) hD hS hA [0, 1, 2] rfl
          refine va_callv (va_runV (As := [.int 126]) (rest := []) ⟨hx, hb, hml, hown, hts⟩ (o_r_keepOpen l dC dI ad av H.size h0 e0 e2 cl ol k0 k2 f0 g0 i4 i5 i6 i7 126 (by omega) (by omega)) (cwV 1 hts (gi_4 (List.mem_cons_of_mem _ (List.mem_append_left _ (List.mem_of_getElem? (i := 12) rfl))) (List.mem_cons_of_mem _ (List.mem_append_left _ (List.mem_of_getElem? (i := 13) rfl))) (List.mem_cons_of_mem _ (List.mem_append_left _ (List.mem_of_getElem? (i := 14) rfl))) (List.mem_cons_of_mem _ (List.mem_append_left _ (List.mem_of_getElem? (i := 6) rfl))) (fun _ hh => (List.mem_cons_of_mem _ (List.mem_append_right _ (List.mem_append_right _ (List.mem_append_right _ (List.mem_append_right _ (List.mem_append_right _ (List.mem_append_left _ hh)))))))) gd_o_r_keepOpen) rfl rfl rfl (by decide +kernel) ⟨Nat.le_of_ble_eq_true rfl, Nat.le_of_ble_eq_true rfl⟩) ⟨pr_blind, va_recv hKc hPc (ci := 8) (q0 := 0) rfl rfl, pr_use hPc hKc hDc hFc hS hM⟩ rfl rfl hl.1 rfl (lv_room (Nat.le_of_ble_eq_true rfl)) dX8_beginsThing_82 ⟨Nat.le_of_ble_eq_true rfl, Nat.le_of_ble_eq_true rfl⟩) hS (fun q _ h => hFc q h) hFc (fun u t H locs ht hvm hw hB hz1 hk1 hS => ?_)
          refine W.widen (k := 0) (n := 0) (Nat.le_of_ble_eq_true rfl) (Nat.le_of_ble_eq_true rfl) ?_
          obtain ⟨ol_106, g_107, hf_109, hP1, hK1, hD1⟩ := hB
          rw [ht] at hP1
          have hK1 := va_K.moved hvm.symm hK1
          obtain ⟨hP, hD⟩ := va_join (wr := []) (w1 := [(h0, .inr (8, [.ref e0, .int (nI cl), .ref e2, .int (nI ol_106), .int i4, .int i5, .int i6, .int i7])), (e0, .inl (k0, 60, .inl f0)), (e2, .inl (k2, 60, .inl g_107))]) hP hD [0, 1, 2] [] rfl rfl (by decide) (by decide) hk1 hFc hP1 hD1
          have hK := (hK.sub (tys' := []) [] rfl).app hK1
          have hP : va_P (dC, dI) vwCl [(h0, .inr (8, [.ref e0, .int (nI cl), .ref e2, .int (nI ol_106), .int i4, .int i5, .int i6, .int i7])), (e0, .inl (k0, 60, .inl f0)), (e2, .inl (k2, 60, .inl g_107))] H := hP
          have hD : va_D A [(h0, .inr (8, [.ref e0, .int (nI cl), .ref e2, .int (nI ol_106), .int i4, .int i5, .int i6, .int i7])), (e0, .inl (k0, 60, .inl f0)), (e2, .inl (k2, 60, .inl g_107))] := hD
          have hK : va_K (dC, dI) vwCl [(k0, .int), (k2, .char)] s := hK
          refine lv_iconst (v := 1) hx hb dX8_beginsThing_85 (by decide) ?_
          have hP9 := hP.sub (ws' := [(h0, .inr (8, [.ref e0, .int (nI cl), .ref e2, .int (nI ol_106), .int i4, .int i5, .int i6, .int i7])), (e0, .inl (k0, 60, .inl f0)), (e2, .inl (k2, 60, .inl g_107))]) [0, 1, 2] rfl
          have hD9 := hD.sub (ws' := [(h0, .inr (8, [.ref e0, .int (nI cl), .ref e2, .int (nI ol_106), .int i4, .int i5, .int i6, .int i7])), (e0, .inl (k0, 60, .inl f0)), (e2, .inl (k2, 60, .inl g_107))]) [0, 1, 2] (by decide) rfl
          have hK9 := hK.sub (tys' := [(k0, .int), (k2, .char)]) [0, 1] rfl
          exact W.zret (v := 1) hx hb hr (by decide) (fun t ht hW => ⟨⟨1, 1, rfl, rfl, Or.inl ⟨cl, ol_106, i4, i5, i6, i7, f0, g_107, rfl, (by omega), hf_109, by rw [ht]; exact hP9, va_K.moved hW.alike hK9, hD9⟩⟩, hS.F ht⟩) hS.2.2 dX8_beginsThing_86
    · refine lv_aload_n hx hb dX8_beginsThing_17 rfl (lv_at hl 1 rfl) ?_
      refine lv_iload_n hx hb dX8_beginsThing_18 rfl (lv_at hl 0 rfl) ?_
      refine lv_if_lt (tgt := 30) hx hb dX8_beginsThing_19 (by decide) (fun c_110 => absurd c_110 c_79) (fun c_110 => ?_)
      refine lv_sipush (v := 10000) hx hb dX8_beginsThing_22 (by decide) ?_
      refine lv_iload_n hx hb dX8_beginsThing_25 rfl (lv_at hl 0 rfl) ?_
      refine lv_iadd hx hb dX8_beginsThing_26 ?_
      refine lv_topi (fun x_111 ex_111 => ?_)
      refine lv_goto (tgt := 34) hx hb dX8_beginsThing_27 (by decide) ?_
      have hPc := hP.sub (ws' := [(h0, .inr (8, [.ref e0, .int (nI cl), .ref e2, .int (nI ol), .int i4, .int i5, .int i6, .int i7])), (e0, .inl (k0, 60, .inl f0)), (e2, .inl (k2, 60, .inl g0))]) [0, 1, 2] rfl
      have hDc := hD.sub (ws' := [(h0, .inr (8, [.ref e0, .int (nI cl), .ref e2, .int (nI ol), .int i4, .int i5, .int i6, .int i7])), (e0, .inl (k0, 60, .inl f0)), (e2, .inl (k2, 60, .inl g0))]) [0, 1, 2] (by decide) rfl
      have hKc := hK.sub (tys' := [(k0, .int), (k2, .char)]) [0, 1] rfl
      have hFc := va_free (wc := [(h0, .inr (8, [.ref e0, .int (nI cl), .ref e2, .int (nI ol), .int i4, .int i5, .int i6, .int i7])), (e0, .inl (k0, 60, .inl f0)), (e2, .inl (k2, 60, .inl g0))]) hD hS hA [0, 1, 2] rfl
      refine va_callv (va_runV (As := [.int x_111]) (rest := []) ⟨hx, hb, hml, hown, hts⟩ (o_r_write l dC dI ad av H.size h0 e0 e2 cl ol k0 k2 f0 g0 i4 i5 i6 i7 x_111 (by omega) (by omega)) (cwV 1 hts (gi_4 (List.mem_cons_of_mem _ (List.mem_append_left _ (List.mem_of_getElem? (i := 7) rfl))) (List.mem_cons_of_mem _ (List.mem_append_left _ (List.mem_of_getElem? (i := 8) rfl))) (List.mem_cons_of_mem _ (List.mem_append_left _ (List.mem_of_getElem? (i := 9) rfl))) (List.mem_cons_of_mem _ (List.mem_append_left _ (List.mem_of_getElem? (i := 6) rfl))) (fun _ hh => (List.mem_cons_of_mem _ (List.mem_append_right _ (List.mem_append_right _ (List.mem_append_right _ (List.mem_append_left _ hh)))))) gd_o_r_write) rfl rfl rfl (by decide +kernel) ⟨Nat.le_of_ble_eq_true rfl, Nat.le_of_ble_eq_true rfl⟩) ⟨pr_blind, va_recv hKc hPc (ci := 8) (q0 := 0) rfl rfl, pr_use hPc hKc hDc hFc hS hM⟩ rfl rfl hl.1 rfl (lv_room (Nat.le_of_ble_eq_true rfl)) dX8_beginsThing_34 ⟨Nat.le_of_ble_eq_true rfl, Nat.le_of_ble_eq_true rfl⟩) hS (fun q _ h => hFc q h) hFc (fun u t H locs ht hvm hw hB hz1 hk1 hS => ?_)
      refine W.widen (k := 0) (n := 0) (Nat.le_of_ble_eq_true rfl) (Nat.le_of_ble_eq_true rfl) ?_
      obtain ⟨cl_113, f_114, hf_116, hP1, hK1, hD1⟩ := hB
      rw [ht] at hP1
      have hK1 := va_K.moved hvm.symm hK1
      obtain ⟨hP, hD⟩ := va_join (wr := []) (w1 := [(h0, .inr (8, [.ref e0, .int (nI cl_113), .ref e2, .int (nI ol), .int i4, .int i5, .int i6, .int i7])), (e0, .inl (k0, 60, .inl f_114)), (e2, .inl (k2, 60, .inl g0))]) hP hD [0, 1, 2] [] rfl rfl (by decide) (by decide) hk1 hFc hP1 hD1
      have hK := (hK.sub (tys' := []) [] rfl).app hK1
      have hP : va_P (dC, dI) vwCl [(h0, .inr (8, [.ref e0, .int (nI cl_113), .ref e2, .int (nI ol), .int i4, .int i5, .int i6, .int i7])), (e0, .inl (k0, 60, .inl f_114)), (e2, .inl (k2, 60, .inl g0))] H := hP
      have hD : va_D A [(h0, .inr (8, [.ref e0, .int (nI cl_113), .ref e2, .int (nI ol), .int i4, .int i5, .int i6, .int i7])), (e0, .inl (k0, 60, .inl f_114)), (e2, .inl (k2, 60, .inl g0))] := hD
      have hK : va_K (dC, dI) vwCl [(k0, .int), (k2, .char)] s := hK
      refine lv_aload_n hx hb dX8_beginsThing_37 rfl (lv_at hl 1 rfl) ?_
      refine lv_iload_n hx hb dX8_beginsThing_38 rfl (lv_at hl 0 rfl) ?_
      refine lv_if_lt (tgt := 46) hx hb dX8_beginsThing_39 (by decide) (fun c_117 => absurd c_117 c_79) (fun c_117 => ?_)
      refine lv_iconst (v := 0) hx hb dX8_beginsThing_42 (by decide) ?_
      refine lv_goto (tgt := 47) hx hb dX8_beginsThing_43 (by decide) ?_
      refine va_put (D := (dC, dI)) (ci := 8) (v := .int 0) (ty := .int) (C := RX8) (T := TX8) (N := 8) hx hb hts (fun _ hh => (List.mem_cons_of_mem _ (List.mem_append_right _ (List.mem_append_right _ (List.mem_append_right _ (List.mem_append_right _ (List.mem_append_left _ hh))))))) tyX8 tyX8_ok nmX8 hown hK hP hD hS 0 rfl rfl 6 (by decide) (hts (.fieldLink RX8 32 "TypingPool$Reader" "digits" "I") (List.mem_cons_of_mem _ (List.mem_append_left _ (List.mem_of_getElem? (i := 10) rfl)))) (fun _ h9 => h9) rfl (tyX8_ok 6 (by decide)) rfl rfl (Nat.le_of_ble_eq_true rfl) dX8_beginsThing_47 (fun H locs hP hD hS => ?_)
      have hP : va_P (dC, dI) vwCl [(h0, .inr (8, [.ref e0, .int (nI cl_113), .ref e2, .int (nI ol), .int i4, .int i5, .int 0, .int i7])), (e0, .inl (k0, 60, .inl f_114)), (e2, .inl (k2, 60, .inl g0))] H := hP
      have hD : va_D A [(h0, .inr (8, [.ref e0, .int (nI cl_113), .ref e2, .int (nI ol), .int i4, .int i5, .int 0, .int i7])), (e0, .inl (k0, 60, .inl f_114)), (e2, .inl (k2, 60, .inl g0))] := hD
      refine lv_aload_n hx hb dX8_beginsThing_50 rfl (lv_at hl 1 rfl) ?_
      refine lv_iconst (v := 0) hx hb dX8_beginsThing_51 (by decide) ?_
      refine va_put (D := (dC, dI)) (ci := 8) (v := .int 0) (ty := .boolean) (C := RX8) (T := TX8) (N := 8) hx hb hts (fun _ hh => (List.mem_cons_of_mem _ (List.mem_append_right _ (List.mem_append_right _ (List.mem_append_right _ (List.mem_append_right _ (List.mem_append_left _ hh))))))) tyX8 tyX8_ok nmX8 hown hK hP hD hS 0 rfl rfl 7 (by decide) (hts (.fieldLink RX8 35 "TypingPool$Reader" "wantsThing" "Z") (List.mem_cons_of_mem _ (List.mem_append_left _ (List.mem_of_getElem? (i := 11) rfl)))) (fun _ h9 => h9) rfl (tyX8_ok 7 (by decide)) rfl rfl (Nat.le_of_ble_eq_true rfl) dX8_beginsThing_52 (fun H locs hP hD hS => ?_)
      have hP : va_P (dC, dI) vwCl [(h0, .inr (8, [.ref e0, .int (nI cl_113), .ref e2, .int (nI ol), .int i4, .int i5, .int 0, .int 0])), (e0, .inl (k0, 60, .inl f_114)), (e2, .inl (k2, 60, .inl g0))] H := hP
      have hD : va_D A [(h0, .inr (8, [.ref e0, .int (nI cl_113), .ref e2, .int (nI ol), .int i4, .int i5, .int 0, .int 0])), (e0, .inl (k0, 60, .inl f_114)), (e2, .inl (k2, 60, .inl g0))] := hD
      refine lv_iconst (v := 1) hx hb dX8_beginsThing_55 (by decide) ?_
      have hP9 := hP.sub (ws' := [(h0, .inr (8, [.ref e0, .int (nI cl_113), .ref e2, .int (nI ol), .int i4, .int i5, .int 0, .int 0])), (e0, .inl (k0, 60, .inl f_114)), (e2, .inl (k2, 60, .inl g0))]) [0, 1, 2] rfl
      have hD9 := hD.sub (ws' := [(h0, .inr (8, [.ref e0, .int (nI cl_113), .ref e2, .int (nI ol), .int i4, .int i5, .int 0, .int 0])), (e0, .inl (k0, 60, .inl f_114)), (e2, .inl (k2, 60, .inl g0))]) [0, 1, 2] (by decide) rfl
      have hK9 := hK.sub (tys' := [(k0, .int), (k2, .char)]) [0, 1] rfl
      exact W.zret (v := 1) hx hb hr (by decide) (fun t ht hW => ⟨⟨1, 1, rfl, rfl, Or.inl ⟨cl_113, ol, i4, i5, 0, 0, f_114, g0, rfl, hf_116, (by omega), by rw [ht]; exact hP9, va_K.moved hW.alike hK9, hD9⟩⟩, hS.F ht⟩) hS.2.2 dX8_beginsThing_56
def wo_o_r_read : List Cond := [.fieldLink RX8 19 "TypingPool$Reader" "codeLength" "I", .fieldLink RX8 23 "TypingPool$Reader" "openLength" "I", .fieldLink RX8 26 "TypingPool$Reader" "depth" "I", .fieldLink RX8 29 "TypingPool$Reader" "compared" "I", .fieldLink RX8 32 "TypingPool$Reader" "digits" "I", .fieldLink RX8 35 "TypingPool$Reader" "wantsThing" "Z", .methodLink RX8 39 Lib.Math.min.name, .static Lib.Math.min.name, .initialized "java/lang/Math", .code Lib.Math.min.name Lib.Math.min.code 2 (some .int), .methodLink RX8 53 yX8_close, .instanceMethod yX8_close, .selects RX8 yX8_close yX8_close, .initialized RX8, .methodLink RX8 49 yX8_followsThing, .instanceMethod yX8_followsThing, .selects RX8 yX8_followsThing yX8_followsThing, .methodLink RX8 45 yX8_beginsThing, .instanceMethod yX8_beginsThing, .selects RX8 yX8_beginsThing yX8_beginsThing]
def wm_o_r_read : List Cond := .code yX8_read cX8_read 7 (some .int) :: (wo_o_r_read ++ (wsX80 ++ (wm_o_r_close ++ (wm_o_r_followsThing ++ (wm_o_r_beginsThing ++ ([] : List Cond))))))
theorem gd_o_r_read : ∀ w ∈ wm_o_r_read, goodWord w = true := gd_c rfl (gd_a (by decide) (gd_a gd_wsX80 (gd_a gd_o_r_close (gd_a gd_o_r_followsThing (gd_a gd_o_r_beginsThing gd_nil)))))
set_option maxRecDepth 20000 in
theorem im_o_r_read : ∀ w ∈ wm_o_r_read, w ∈ lw_tbl := im_c (in_r [.code yX8_read cX8_read 7 (some .int)] [258] (by decide +kernel)) (in_app (in_r wo_o_r_read [171, 173, 174, 175, 176, 177, 259, 260, 78, 261, 353, 355, 6, 73, 341, 343, 3, 262, 264, 0] (by decide +kernel)) (in_app im_wsX80 (in_app im_o_r_close (in_app im_o_r_followsThing (in_app im_o_r_beginsThing im_nil)))))
set_option maxHeartbeats 4000000 in
set_option maxRecDepth 100000 in
theorem o_r_read (l : Launch) (dC : Nat → ClassId) (dI : Nat → Nat → Nat) (ad av : Nat → Nat) (sz : Nat) (h0 : Nat) (e0 : Nat) (e2 : Nat) (sg : Nat) (nn : Nat) (k0 : ClassId) (k2 : ClassId) (ks : ClassId) (f0 : Nat → Int32) (g0 : Nat → Int32) (fs : Nat → Int32) (i1 : Int32) (i3 : Int32) (i4 : Int32) (i5 : Int32) (i6 : Int32) (i7 : Int32) (i : Nat) (hnn : nn ≤ 23) (hi : i < 13) : Met l yX8_read wm_o_r_read ({ frames := 10, cells := 0, slots := 0, locals := 350 }) (pr_ ad av (dC, dI) sz [.ref h0, .ref sg, .int (nI nn), .ref (ad i)] [(h0, .inr (8, [.ref e0, .int i1, .ref e2, .int i3, .int i4, .int i5, .int i6, .int i7])), (e0, .inl (k0, 60, .inl f0)), (e2, .inl (k2, 60, .inl g0)), (sg, .inl (ks, nn, .inl fs))] [(k0, .int), (k2, .char), (ks, .char)]) (va_Qi (fun (r u : Int32) => u = r) (fun (r : Int32) (t : State) => (∃ (r9 : Int32), ∃ (cl1 : Nat), ∃ (ol1 : Nat), ∃ (j4 : Int32), ∃ (j5 : Int32), ∃ (j6 : Int32), ∃ (j7 : Int32), ∃ (f1 : Nat → Int32), ∃ (g1 : Nat → Int32), r = r9 ∧ cl1 ≤ 60 ∧ ol1 ≤ 60 ∧ po_ (dC, dI) (va_A [(h0, .inr (8, [.ref e0, .int i1, .ref e2, .int i3, .int i4, .int i5, .int i6, .int i7])), (e0, .inl (k0, 60, .inl f0)), (e2, .inl (k2, 60, .inl g0)), (sg, .inl (ks, nn, .inl fs))] sz) [(h0, .inr (8, [.ref e0, .int (nI cl1), .ref e2, .int (nI ol1), .int j4, .int j5, .int j6, .int j7])), (e0, .inl (k0, 60, .inl f1)), (e2, .inl (k2, 60, .inl g1))] [(k0, .int), (k2, .char)] t)) (va_A [(h0, .inr (8, [.ref e0, .int i1, .ref e2, .int i3, .int i4, .int i5, .int i6, .int i7])), (e0, .inl (k0, 60, .inl f0)), (e2, .inl (k2, 60, .inl g0)), (sg, .inl (ks, nn, .inl fs))] sz)) 0 0 (va_A [(h0, .inr (8, [.ref e0, .int i1, .ref e2, .int i3, .int i4, .int i5, .int i6, .int i7])), (e0, .inl (k0, 60, .inl f0)), (e2, .inl (k2, 60, .inl g0)), (sg, .inl (ks, nn, .inl fs))] sz) := by
  refine Met.ofW (cc := cX8_read) (maxL := 7) (ret := (some .int)) (by decide) rfl ?_
  intro p e s m args below meth c s₁ B hml hv
  obtain ⟨rfl, hsz, hP, hK, hD0, hM⟩ := hv
  have hx := B.exec
  have hb := B.bytes
  have hr := B.returns
  have hts := atoms_spec (ws := wm_o_r_read) B.pre
  have hown : s.vm.findClass RX8 = some m.cls := findClass_of_methodNamed B.named
  have hlocks := B.notSynchronized
  subst hsz
  have hD := hD0.self (sz := s.heap.size)
  generalize hAe : va_A [(h0, .inr (8, [.ref e0, .int i1, .ref e2, .int i3, .int i4, .int i5, .int i6, .int i7])), (e0, .inl (k0, 60, .inl f0)), (e2, .inl (k2, 60, .inl g0)), (sg, .inl (ks, nn, .inl fs))] s.heap.size = A at hD hM ⊢
  have hA : ∀ q : Nat, s.heap.size ≤ q → A q := fun q h => by rw [← hAe]; exact Or.inr h
  have hS : va_S A s.heap s.heap [] := va_S.rf
  have hP : va_P (dC, dI) vwCl [(h0, .inr (8, [.ref e0, .int i1, .ref e2, .int i3, .int i4, .int i5, .int i6, .int i7])), (e0, .inl (k0, 60, .inl f0)), (e2, .inl (k2, 60, .inl g0)), (sg, .inl (ks, nn, .inl fs))] s.heap := hP
  have hl := lv_entry ([.ref h0, .ref sg, .int (nI nn), .ref (ad i)]) (n := 7) (Nat.le_of_ble_eq_true rfl)
  rw [lg_entry_eq]
  generalize (lg_sl ([.ref h0, .ref sg, .int (nI nn), .ref (ad i)]) ++ List.replicate (7 - (lg_sl ([.ref h0, .ref sg, .int (nI nn), .ref (ad i)])).length) Slot.unset).toArray = ls at hl ⊢
  have hl : lv_has ls 7 [(0, .ref h0), (1, .ref sg), (2, .int (nI nn)), (3, .ref (ad i))] := hl
  have hStr := st_at hM i hi
  have hsL := sL_le i
  obtain ⟨fS, hT⟩ := hStr.2.2.2
  refine lv_aload_n hx hb dX8_read_0 rfl (lv_at hl 0 rfl) ?_
  refine lv_iconst (v := 0) hx hb dX8_read_1 (by decide) ?_
  refine va_put (D := (dC, dI)) (ci := 8) (v := .int 0) (ty := .int) (C := RX8) (T := TX8) (N := 8) hx hb hts (fun _ hh => (List.mem_cons_of_mem _ (List.mem_append_right _ (List.mem_append_left _ hh)))) tyX8 tyX8_ok nmX8 hown hK hP hD hS 0 rfl rfl 1 (by decide) (hts (.fieldLink RX8 19 "TypingPool$Reader" "codeLength" "I") (List.mem_cons_of_mem _ (List.mem_append_left _ (List.mem_of_getElem? (i := 0) rfl)))) (fun _ h9 => h9) rfl (tyX8_ok 1 (by decide)) rfl rfl (Nat.le_of_ble_eq_true rfl) dX8_read_2 (fun H locs hP hD hS => ?_)
  have hP : va_P (dC, dI) vwCl [(h0, .inr (8, [.ref e0, .int 0, .ref e2, .int i3, .int i4, .int i5, .int i6, .int i7])), (e0, .inl (k0, 60, .inl f0)), (e2, .inl (k2, 60, .inl g0)), (sg, .inl (ks, nn, .inl fs))] H := hP
  have hD : va_D A [(h0, .inr (8, [.ref e0, .int 0, .ref e2, .int i3, .int i4, .int i5, .int i6, .int i7])), (e0, .inl (k0, 60, .inl f0)), (e2, .inl (k2, 60, .inl g0)), (sg, .inl (ks, nn, .inl fs))] := hD
  refine lv_aload_n hx hb dX8_read_5 rfl (lv_at hl 0 rfl) ?_
  refine lv_iconst (v := 0) hx hb dX8_read_6 (by decide) ?_
  refine va_put (D := (dC, dI)) (ci := 8) (v := .int 0) (ty := .int) (C := RX8) (T := TX8) (N := 8) hx hb hts (fun _ hh => (List.mem_cons_of_mem _ (List.mem_append_right _ (List.mem_append_left _ hh)))) tyX8 tyX8_ok nmX8 hown hK hP hD hS 0 rfl rfl 3 (by decide) (hts (.fieldLink RX8 23 "TypingPool$Reader" "openLength" "I") (List.mem_cons_of_mem _ (List.mem_append_left _ (List.mem_of_getElem? (i := 1) rfl)))) (fun _ h9 => h9) rfl (tyX8_ok 3 (by decide)) rfl rfl (Nat.le_of_ble_eq_true rfl) dX8_read_7 (fun H locs hP hD hS => ?_)
  have hP : va_P (dC, dI) vwCl [(h0, .inr (8, [.ref e0, .int 0, .ref e2, .int 0, .int i4, .int i5, .int i6, .int i7])), (e0, .inl (k0, 60, .inl f0)), (e2, .inl (k2, 60, .inl g0)), (sg, .inl (ks, nn, .inl fs))] H := hP
  have hD : va_D A [(h0, .inr (8, [.ref e0, .int 0, .ref e2, .int 0, .int i4, .int i5, .int i6, .int i7])), (e0, .inl (k0, 60, .inl f0)), (e2, .inl (k2, 60, .inl g0)), (sg, .inl (ks, nn, .inl fs))] := hD
  refine lv_aload_n hx hb dX8_read_10 rfl (lv_at hl 0 rfl) ?_
  refine lv_iconst (v := 0) hx hb dX8_read_11 (by decide) ?_
  refine va_put (D := (dC, dI)) (ci := 8) (v := .int 0) (ty := .int) (C := RX8) (T := TX8) (N := 8) hx hb hts (fun _ hh => (List.mem_cons_of_mem _ (List.mem_append_right _ (List.mem_append_left _ hh)))) tyX8 tyX8_ok nmX8 hown hK hP hD hS 0 rfl rfl 4 (by decide) (hts (.fieldLink RX8 26 "TypingPool$Reader" "depth" "I") (List.mem_cons_of_mem _ (List.mem_append_left _ (List.mem_of_getElem? (i := 2) rfl)))) (fun _ h9 => h9) rfl (tyX8_ok 4 (by decide)) rfl rfl (Nat.le_of_ble_eq_true rfl) dX8_read_12 (fun H locs hP hD hS => ?_)
  have hP : va_P (dC, dI) vwCl [(h0, .inr (8, [.ref e0, .int 0, .ref e2, .int 0, .int 0, .int i5, .int i6, .int i7])), (e0, .inl (k0, 60, .inl f0)), (e2, .inl (k2, 60, .inl g0)), (sg, .inl (ks, nn, .inl fs))] H := hP
  have hD : va_D A [(h0, .inr (8, [.ref e0, .int 0, .ref e2, .int 0, .int 0, .int i5, .int i6, .int i7])), (e0, .inl (k0, 60, .inl f0)), (e2, .inl (k2, 60, .inl g0)), (sg, .inl (ks, nn, .inl fs))] := hD
  refine lv_aload_n hx hb dX8_read_15 rfl (lv_at hl 0 rfl) ?_
  refine lv_iconst (v := 0) hx hb dX8_read_16 (by decide) ?_
  refine va_put (D := (dC, dI)) (ci := 8) (v := .int 0) (ty := .int) (C := RX8) (T := TX8) (N := 8) hx hb hts (fun _ hh => (List.mem_cons_of_mem _ (List.mem_append_right _ (List.mem_append_left _ hh)))) tyX8 tyX8_ok nmX8 hown hK hP hD hS 0 rfl rfl 5 (by decide) (hts (.fieldLink RX8 29 "TypingPool$Reader" "compared" "I") (List.mem_cons_of_mem _ (List.mem_append_left _ (List.mem_of_getElem? (i := 3) rfl)))) (fun _ h9 => h9) rfl (tyX8_ok 5 (by decide)) rfl rfl (Nat.le_of_ble_eq_true rfl) dX8_read_17 (fun H locs hP hD hS => ?_)
  have hP : va_P (dC, dI) vwCl [(h0, .inr (8, [.ref e0, .int 0, .ref e2, .int 0, .int 0, .int 0, .int i6, .int i7])), (e0, .inl (k0, 60, .inl f0)), (e2, .inl (k2, 60, .inl g0)), (sg, .inl (ks, nn, .inl fs))] H := hP
  have hD : va_D A [(h0, .inr (8, [.ref e0, .int 0, .ref e2, .int 0, .int 0, .int 0, .int i6, .int i7])), (e0, .inl (k0, 60, .inl f0)), (e2, .inl (k2, 60, .inl g0)), (sg, .inl (ks, nn, .inl fs))] := hD
  refine lv_aload_n hx hb dX8_read_20 rfl (lv_at hl 0 rfl) ?_
  refine lv_iconst (v := 0) hx hb dX8_read_21 (by decide) ?_
  refine va_put (D := (dC, dI)) (ci := 8) (v := .int 0) (ty := .int) (C := RX8) (T := TX8) (N := 8) hx hb hts (fun _ hh => (List.mem_cons_of_mem _ (List.mem_append_right _ (List.mem_append_left _ hh)))) tyX8 tyX8_ok nmX8 hown hK hP hD hS 0 rfl rfl 6 (by decide) (hts (.fieldLink RX8 32 "TypingPool$Reader" "digits" "I") (List.mem_cons_of_mem _ (List.mem_append_left _ (List.mem_of_getElem? (i := 4) rfl)))) (fun _ h9 => h9) rfl (tyX8_ok 6 (by decide)) rfl rfl (Nat.le_of_ble_eq_true rfl) dX8_read_22 (fun H locs hP hD hS => ?_)
  have hP : va_P (dC, dI) vwCl [(h0, .inr (8, [.ref e0, .int 0, .ref e2, .int 0, .int 0, .int 0, .int 0, .int i7])), (e0, .inl (k0, 60, .inl f0)), (e2, .inl (k2, 60, .inl g0)), (sg, .inl (ks, nn, .inl fs))] H := hP
  have hD : va_D A [(h0, .inr (8, [.ref e0, .int 0, .ref e2, .int 0, .int 0, .int 0, .int 0, .int i7])), (e0, .inl (k0, 60, .inl f0)), (e2, .inl (k2, 60, .inl g0)), (sg, .inl (ks, nn, .inl fs))] := hD
  refine lv_aload_n hx hb dX8_read_25 rfl (lv_at hl 0 rfl) ?_
  refine lv_iconst (v := 1) hx hb dX8_read_26 (by decide) ?_
  refine va_put (D := (dC, dI)) (ci := 8) (v := .int 1) (ty := .boolean) (C := RX8) (T := TX8) (N := 8) hx hb hts (fun _ hh => (List.mem_cons_of_mem _ (List.mem_append_right _ (List.mem_append_left _ hh)))) tyX8 tyX8_ok nmX8 hown hK hP hD hS 0 rfl rfl 7 (by decide) (hts (.fieldLink RX8 35 "TypingPool$Reader" "wantsThing" "Z") (List.mem_cons_of_mem _ (List.mem_append_left _ (List.mem_of_getElem? (i := 5) rfl)))) (fun _ h9 => h9) rfl (tyX8_ok 7 (by decide)) rfl rfl (Nat.le_of_ble_eq_true rfl) dX8_read_27 (fun H locs hP hD hS => ?_)
  have hP : va_P (dC, dI) vwCl [(h0, .inr (8, [.ref e0, .int 0, .ref e2, .int 0, .int 0, .int 0, .int 0, .int 1])), (e0, .inl (k0, 60, .inl f0)), (e2, .inl (k2, 60, .inl g0)), (sg, .inl (ks, nn, .inl fs))] H := hP
  have hD : va_D A [(h0, .inr (8, [.ref e0, .int 0, .ref e2, .int 0, .int 0, .int 0, .int 0, .int 1])), (e0, .inl (k0, 60, .inl f0)), (e2, .inl (k2, 60, .inl g0)), (sg, .inl (ks, nn, .inl fs))] := hD
  refine lv_iload_n hx hb dX8_read_30 rfl (lv_at hl 2 rfl) ?_
  refine lv_bipush (v := 60) hx hb dX8_read_31 (by decide) ?_
  refine va_mmin hx hb (by rw [hml]; exact hl.1.symm) hown (hts (.methodLink RX8 39 Lib.Math.min.name) (List.mem_cons_of_mem _ (List.mem_append_left _ (List.mem_of_getElem? (i := 6) rfl)))) (hts (.static Lib.Math.min.name) (List.mem_cons_of_mem _ (List.mem_append_left _ (List.mem_of_getElem? (i := 7) rfl)))) (hts (.initialized "java/lang/Math") (List.mem_cons_of_mem _ (List.mem_append_left _ (List.mem_of_getElem? (i := 8) rfl)))) (hts (.code Lib.Math.min.name Lib.Math.min.code 2 (some .int)) (List.mem_cons_of_mem _ (List.mem_append_left _ (List.mem_of_getElem? (i := 9) rfl)))) (Nat.le_of_ble_eq_true rfl) (Nat.le_of_ble_eq_true rfl) (Nat.le_of_ble_eq_true rfl) (Nat.le_of_ble_eq_true rfl) dX8_read_33 ?_
  refine lq_top (v := nI nn) (q_min2 nn 60 rfl rfl (by omega) (by omega) (by omega)) ?_
  refine lv_aload_n hx hb dX8_read_36 rfl (lv_at hl 1 rfl) ?_
  refine va_alen (v := nI nn) hx hb hK hP 3 2 rfl rfl rfl dX8_read_37 ?_
  refine va_mmin hx hb (by rw [hml]; exact hl.1.symm) hown (hts (.methodLink RX8 39 Lib.Math.min.name) (List.mem_cons_of_mem _ (List.mem_append_left _ (List.mem_of_getElem? (i := 6) rfl)))) (hts (.static Lib.Math.min.name) (List.mem_cons_of_mem _ (List.mem_append_left _ (List.mem_of_getElem? (i := 7) rfl)))) (hts (.initialized "java/lang/Math") (List.mem_cons_of_mem _ (List.mem_append_left _ (List.mem_of_getElem? (i := 8) rfl)))) (hts (.code Lib.Math.min.name Lib.Math.min.code 2 (some .int)) (List.mem_cons_of_mem _ (List.mem_append_left _ (List.mem_of_getElem? (i := 9) rfl)))) (Nat.le_of_ble_eq_true rfl) (Nat.le_of_ble_eq_true rfl) (Nat.le_of_ble_eq_true rfl) (Nat.le_of_ble_eq_true rfl) dX8_read_38 ?_
  refine lq_top (v := nI nn) (ite_self _) ?_
  refine lv_istore (lv' := [(4, .int (nI nn)), (0, .ref h0), (1, .ref sg), (2, .int (nI nn)), (3, .ref (ad i))]) hx hb dX8_read_41 hl (by decide) rfl (fun ls hl => ?_)
  refine lv_iconst (v := 0) hx hb dX8_read_43 (by decide) ?_
  refine lv_istore (lv' := [(5, .int 0), (4, .int (nI nn)), (0, .ref h0), (1, .ref sg), (2, .int (nI nn)), (3, .ref (ad i))]) hx hb dX8_read_44 hl (by decide) rfl (fun ls hl => ?_)
  have loop_46 : ∀ (n : Nat) (j : Nat) (cl : Nat) (ol : Nat) (i4 : Int32) (i5 : Int32) (i6 : Int32) (i7 : Int32) (f0 : Nat → Int32) (g0 : Nat → Int32) (H : Heap) (locs : List Loc) (ls : Array Slot), nn - j < n → j ≤ nn → cl ≤ 60 → ol ≤ 60 → va_K (dC, dI) vwCl [(k0, .int), (k2, .char), (ks, .char)] s → va_P (dC, dI) vwCl [(h0, .inr (8, [.ref e0, .int (nI cl), .ref e2, .int (nI ol), .int i4, .int i5, .int i6, .int i7])), (e0, .inl (k0, 60, .inl f0)), (e2, .inl (k2, 60, .inl g0)), (sg, .inl (ks, nn, .inl fs))] H → va_D A [(h0, .inr (8, [.ref e0, .int (nI cl), .ref e2, .int (nI ol), .int i4, .int i5, .int i6, .int i7])), (e0, .inl (k0, 60, .inl f0)), (e2, .inl (k2, 60, .inl g0)), (sg, .inl (ks, nn, .inl fs))] → va_S A s.heap H locs → lv_has ls 7 [(5, .int (nI j)), (4, .int (nI nn)), (0, .ref h0), (1, .ref sg), (2, .int (nI nn)), (3, .ref (ad i))] → W p l e (headSpec wm_o_r_read ({ frames := 10, cells := 0, slots := 0, locals := 350 })).room s m ([.ref h0, .ref sg, .int (nI nn), .ref (ad i)] : List Value).toArray below meth c H locs 0 0 (MQ below (va_Qi (fun (r u : Int32) => u = r) (fun (r : Int32) (t : State) => (∃ (r9 : Int32), ∃ (cl1 : Nat), ∃ (ol1 : Nat), ∃ (j4 : Int32), ∃ (j5 : Int32), ∃ (j6 : Int32), ∃ (j7 : Int32), ∃ (f1 : Nat → Int32), ∃ (g1 : Nat → Int32), r = r9 ∧ cl1 ≤ 60 ∧ ol1 ≤ 60 ∧ po_ (dC, dI) A [(h0, .inr (8, [.ref e0, .int (nI cl1), .ref e2, .int (nI ol1), .int j4, .int j5, .int j6, .int j7])), (e0, .inl (k0, 60, .inl f1)), (e2, .inl (k2, 60, .inl g1))] [(k0, .int), (k2, .char)] t)) A) ([.ref h0, .ref sg, .int (nI nn), .ref (ad i)] : List Value).toArray s 0 0 A) (F0 m 46 ls []) := by
    intro n
    induction n with
    | zero => intro j cl ol i4 i5 i6 i7 f0 g0 H locs ls hlt; exact absurd hlt (Nat.not_lt_zero _)
    | succ n ih_46 =>
      intro j cl ol i4 i5 i6 i7 f0 g0 H locs ls hlt hj hcl hol hK hP hD hS hl
      refine lv_iload hx hb dX8_read_46 (lv_at hl 0 rfl) ?_
      refine lv_iload hx hb dX8_read_48 (lv_at hl 1 rfl) ?_
      refine lv_icmp_ge (tgt := 96) hx hb dX8_read_50 (by decide) (fun c_236 => ?_) (fun c_236 => ?_)
      · have hn_c_236 := q_le nn j c_236 rfl rfl (by omega) (by omega)
        refine lv_iload_n hx hb dX8_read_96 rfl (lv_at hl 4 rfl) ?_
        refine lv_bipush (v := 60) hx hb dX8_read_97 (by decide) ?_
        refine lv_icmp_le (tgt := 105) hx hb dX8_read_99 (by decide) (fun c_237 => ?_) (fun c_237 => ?_)
        · have hn_c_237 := q_le nn 60 c_237 rfl rfl (by omega) (by omega)
          refine lv_aload_n hx hb dX8_read_105 rfl (lv_at hl 2 rfl) ?_
          refine va_get (D := (dC, dI)) (ci := 8) (v := .int i7) (C := RX8) (T := TX8) (N := 8) hx hb hts (fun _ hh => (List.mem_cons_of_mem _ (List.mem_append_right _ (List.mem_append_left _ hh)))) hown hK hP 0 rfl rfl 7 (by decide) (hts (.fieldLink RX8 35 "TypingPool$Reader" "wantsThing" "Z") (List.mem_cons_of_mem _ (List.mem_append_left _ (List.mem_of_getElem? (i := 5) rfl)))) (fun _ h9 => h9) rfl dX8_read_106 ?_
          refine lv_if_ne (tgt := 119) hx hb dX8_read_109 (by decide) (fun c_238 => ?_) (fun c_238 => ?_)
          · refine lv_iload_n hx hb dX8_read_119 rfl (lv_at hl 4 rfl) ?_
            have hP9 := hP.sub (ws' := [(h0, .inr (8, [.ref e0, .int (nI cl), .ref e2, .int (nI ol), .int i4, .int i5, .int i6, .int i7])), (e0, .inl (k0, 60, .inl f0)), (e2, .inl (k2, 60, .inl g0))]) [0, 1, 2] rfl
            have hD9 := hD.sub (ws' := [(h0, .inr (8, [.ref e0, .int (nI cl), .ref e2, .int (nI ol), .int i4, .int i5, .int i6, .int i7])), (e0, .inl (k0, 60, .inl f0)), (e2, .inl (k2, 60, .inl g0))]) [0, 1, 2] (by decide) rfl
            have hK9 := hK.sub (tys' := [(k0, .int), (k2, .char)]) [0, 1] rfl
            exact W.iret (v := nI nn) hx hb hr (fun t ht hW => ⟨⟨nI nn, nI nn, rfl, rfl, ⟨nI nn, cl, ol, i4, i5, i6, i7, f0, g0, rfl, hcl, hol, by rw [ht]; exact hP9, va_K.moved hW.alike hK9, hD9⟩⟩, hS.F ht⟩) hS.2.2 dX8_read_120
          · refine lv_aload_n hx hb dX8_read_112 rfl (lv_at hl 2 rfl) ?_
            refine va_get (D := (dC, dI)) (ci := 8) (v := .int i4) (C := RX8) (T := TX8) (N := 8) hx hb hts (fun _ hh => (List.mem_cons_of_mem _ (List.mem_append_right _ (List.mem_append_left _ hh)))) hown hK hP 0 rfl rfl 4 (by decide) (hts (.fieldLink RX8 26 "TypingPool$Reader" "depth" "I") (List.mem_cons_of_mem _ (List.mem_append_left _ (List.mem_of_getElem? (i := 2) rfl)))) (fun _ h9 => h9) rfl dX8_read_113 ?_
            refine lv_if_le (tgt := 121) hx hb dX8_read_116 (by decide) (fun c_239 => ?_) (fun c_239 => ?_)
            · refine lv_aload_n hx hb dX8_read_121 rfl (lv_at hl 2 rfl) ?_
              refine lv_iconst (v := 1) hx hb dX8_read_122 (by decide) ?_
              have hPc := hP.sub (ws' := [(h0, .inr (8, [.ref e0, .int (nI cl), .ref e2, .int (nI ol), .int i4, .int i5, .int i6, .int i7])), (e0, .inl (k0, 60, .inl f0)), (e2, .inl (k2, 60, .inl g0))]) [0, 1, 2] rfl
              have hDc := hD.sub (ws' := [(h0, .inr (8, [.ref e0, .int (nI cl), .ref e2, .int (nI ol), .int i4, .int i5, .int i6, .int i7])), (e0, .inl (k0, 60, .inl f0)), (e2, .inl (k2, 60, .inl g0))]) [0, 1, 2] (by decide) rfl
              have hKc := hK.sub (tys' := [(k0, .int), (k2, .char)]) [0, 1] rfl
              have hFc := va_free (wc := [(h0, .inr (8, [.ref e0, .int (nI cl), .ref e2, .int (nI ol), .int i4, .int i5, .int i6, .int i7])), (e0, .inl (k0, 60, .inl f0)), (e2, .inl (k2, 60, .inl g0))]) hD hS hA [0, 1, 2] rfl
              refine va_callv (va_runV (As := [.int 1]) (rest := []) ⟨hx, hb, hml, hown, hts⟩ (o_r_close l dC dI ad av H.size h0 e0 e2 cl ol k0 k2 f0 g0 i4 i5 i6 i7 1 hcl hol) (cwV 1 hts (gi_4 (List.mem_cons_of_mem _ (List.mem_append_left _ (List.mem_of_getElem? (i := 10) rfl))) (List.mem_cons_of_mem _ (List.mem_append_left _ (List.mem_of_getElem? (i := 11) rfl))) (List.mem_cons_of_mem _ (List.mem_append_left _ (List.mem_of_getElem? (i := 12) rfl))) (List.mem_cons_of_mem _ (List.mem_append_left _ (List.mem_of_getElem? (i := 13) rfl))) (fun _ hh => (List.mem_cons_of_mem _ (List.mem_append_right _ (List.mem_append_right _ (List.mem_append_left _ hh))))) gd_o_r_close) rfl rfl rfl (by decide +kernel) ⟨Nat.le_of_ble_eq_true rfl, Nat.le_of_ble_eq_true rfl⟩) ⟨pr_blind, va_recv hKc hPc (ci := 8) (q0 := 0) rfl rfl, pr_use hPc hKc hDc hFc hS hM⟩ rfl rfl hl.1 rfl (lv_room (Nat.le_of_ble_eq_true rfl)) dX8_read_123 ⟨Nat.le_of_ble_eq_true rfl, Nat.le_of_ble_eq_true rfl⟩) hS (fun q _ h => hFc q h) hFc (fun u t H locs ht hvm hw hB hz1 hk1 hS => ?_)
              refine W.widen (k := 0) (n := 0) (Nat.le_of_ble_eq_true rfl) (Nat.le_of_ble_eq_true rfl) ?_
              obtain ⟨cl_241, ol_242, j_243, j_244, j_245, j_246, f_247, g_248, hf_250, hf_251, hP1, hK1, hD1⟩ := hB
              rw [ht] at hP1
              have hK1 := va_K.moved hvm.symm hK1
              obtain ⟨hP, hD⟩ := va_join (wr := [(sg, .inl (ks, nn, .inl fs))]) (w1 := [(h0, .inr (8, [.ref e0, .int (nI cl_241), .ref e2, .int (nI ol_242), .int j_243, .int j_244, .int j_245, .int j_246])), (e0, .inl (k0, 60, .inl f_247)), (e2, .inl (k2, 60, .inl g_248))]) hP hD [0, 1, 2] [3] rfl rfl (by decide) (by decide) hk1 hFc hP1 hD1
              have hK := (hK.sub (tys' := [(ks, .char)]) [2] rfl).app hK1
              have hP : va_P (dC, dI) vwCl [(sg, .inl (ks, nn, .inl fs)), (h0, .inr (8, [.ref e0, .int (nI cl_241), .ref e2, .int (nI ol_242), .int j_243, .int j_244, .int j_245, .int j_246])), (e0, .inl (k0, 60, .inl f_247)), (e2, .inl (k2, 60, .inl g_248))] H := hP
              have hD : va_D A [(sg, .inl (ks, nn, .inl fs)), (h0, .inr (8, [.ref e0, .int (nI cl_241), .ref e2, .int (nI ol_242), .int j_243, .int j_244, .int j_245, .int j_246])), (e0, .inl (k0, 60, .inl f_247)), (e2, .inl (k2, 60, .inl g_248))] := hD
              have hK : va_K (dC, dI) vwCl [(ks, .char), (k0, .int), (k2, .char)] s := hK
              refine lv_iconst (v := (-1)) hx hb dX8_read_126 (by decide) ?_
              have hP9 := hP.sub (ws' := [(h0, .inr (8, [.ref e0, .int (nI cl_241), .ref e2, .int (nI ol_242), .int j_243, .int j_244, .int j_245, .int j_246])), (e0, .inl (k0, 60, .inl f_247)), (e2, .inl (k2, 60, .inl g_248))]) [1, 2, 3] rfl
              have hD9 := hD.sub (ws' := [(h0, .inr (8, [.ref e0, .int (nI cl_241), .ref e2, .int (nI ol_242), .int j_243, .int j_244, .int j_245, .int j_246])), (e0, .inl (k0, 60, .inl f_247)), (e2, .inl (k2, 60, .inl g_248))]) [1, 2, 3] (by decide) rfl
              have hK9 := hK.sub (tys' := [(k0, .int), (k2, .char)]) [1, 2] rfl
              exact W.iret (v := (-1)) hx hb hr (fun t ht hW => ⟨⟨(-1), (-1), rfl, rfl, ⟨(-1), cl_241, ol_242, j_243, j_244, j_245, j_246, f_247, g_248, rfl, hf_250, hf_251, by rw [ht]; exact hP9, va_K.moved hW.alike hK9, hD9⟩⟩, hS.F ht⟩) hS.2.2 dX8_read_127
            · refine lv_iload_n hx hb dX8_read_119 rfl (lv_at hl 4 rfl) ?_
              have hP9 := hP.sub (ws' := [(h0, .inr (8, [.ref e0, .int (nI cl), .ref e2, .int (nI ol), .int i4, .int i5, .int i6, .int i7])), (e0, .inl (k0, 60, .inl f0)), (e2, .inl (k2, 60, .inl g0))]) [0, 1, 2] rfl
              have hD9 := hD.sub (ws' := [(h0, .inr (8, [.ref e0, .int (nI cl), .ref e2, .int (nI ol), .int i4, .int i5, .int i6, .int i7])), (e0, .inl (k0, 60, .inl f0)), (e2, .inl (k2, 60, .inl g0))]) [0, 1, 2] (by decide) rfl
              have hK9 := hK.sub (tys' := [(k0, .int), (k2, .char)]) [0, 1] rfl
              exact W.iret (v := nI nn) hx hb hr (fun t ht hW => ⟨⟨nI nn, nI nn, rfl, rfl, ⟨nI nn, cl, ol, i4, i5, i6, i7, f0, g0, rfl, hcl, hol, by rw [ht]; exact hP9, va_K.moved hW.alike hK9, hD9⟩⟩, hS.F ht⟩) hS.2.2 dX8_read_120
        · have hn_c_237 := q_nle nn 60 c_237 rfl rfl (by omega) (by omega)
          refine lv_bipush (v := 60) hx hb dX8_read_102 (by decide) ?_
          have hP9 := hP.sub (ws' := [(h0, .inr (8, [.ref e0, .int (nI cl), .ref e2, .int (nI ol), .int i4, .int i5, .int i6, .int i7])), (e0, .inl (k0, 60, .inl f0)), (e2, .inl (k2, 60, .inl g0))]) [0, 1, 2] rfl
          have hD9 := hD.sub (ws' := [(h0, .inr (8, [.ref e0, .int (nI cl), .ref e2, .int (nI ol), .int i4, .int i5, .int i6, .int i7])), (e0, .inl (k0, 60, .inl f0)), (e2, .inl (k2, 60, .inl g0))]) [0, 1, 2] (by decide) rfl
          have hK9 := hK.sub (tys' := [(k0, .int), (k2, .char)]) [0, 1] rfl
          exact W.iret (v := 60) hx hb hr (fun t ht hW => ⟨⟨60, 60, rfl, rfl, ⟨60, cl, ol, i4, i5, i6, i7, f0, g0, rfl, hcl, hol, by rw [ht]; exact hP9, va_K.moved hW.alike hK9, hD9⟩⟩, hS.F ht⟩) hS.2.2 dX8_read_104
      · have hn_c_236 := q_nle nn j c_236 rfl rfl (by omega) (by omega)
        refine lv_aload_n hx hb dX8_read_53 rfl (lv_at hl 2 rfl) ?_
        refine va_get (D := (dC, dI)) (ci := 8) (v := .int i7) (C := RX8) (T := TX8) (N := 8) hx hb hts (fun _ hh => (List.mem_cons_of_mem _ (List.mem_append_right _ (List.mem_append_left _ hh)))) hown hK hP 0 rfl rfl 7 (by decide) (hts (.fieldLink RX8 35 "TypingPool$Reader" "wantsThing" "Z") (List.mem_cons_of_mem _ (List.mem_append_left _ (List.mem_of_getElem? (i := 5) rfl)))) (fun _ h9 => h9) rfl dX8_read_54 ?_
        refine lv_if_eq (tgt := 72) hx hb dX8_read_57 (by decide) (fun c_252 => ?_) (fun c_252 => ?_)
        · refine lv_aload_n hx hb dX8_read_72 rfl (lv_at hl 2 rfl) ?_
          refine lv_aload_n hx hb dX8_read_73 rfl (lv_at hl 3 rfl) ?_
          refine lv_iload hx hb dX8_read_74 (lv_at hl 0 rfl) ?_
          refine va_cald hx hb hK hP 3 2 rfl rfl (vp_in_nI (n := j) (by omega) (by omega)) dX8_read_76 ?_
          refine lv_topi (fun x_253 ex_253 => ?_)
          have hPc := hP.sub (ws' := [(h0, .inr (8, [.ref e0, .int (nI cl), .ref e2, .int (nI ol), .int i4, .int i5, .int i6, .int i7])), (e0, .inl (k0, 60, .inl f0)), (e2, .inl (k2, 60, .inl g0))]) [0, 1, 2] rfl
          have hDc := hD.sub (ws' := [(h0, .inr (8, [.ref e0, .int (nI cl), .ref e2, .int (nI ol), .int i4, .int i5, .int i6, .int i7])), (e0, .inl (k0, 60, .inl f0)), (e2, .inl (k2, 60, .inl g0))]) [0, 1, 2] (by decide) rfl
          have hKc := hK.sub (tys' := [(k0, .int), (k2, .char)]) [0, 1] rfl
          have hFc := va_free (wc := [(h0, .inr (8, [.ref e0, .int (nI cl), .ref e2, .int (nI ol), .int i4, .int i5, .int i6, .int i7])), (e0, .inl (k0, 60, .inl f0)), (e2, .inl (k2, 60, .inl g0))]) hD hS hA [0, 1, 2] rfl
          refine va_calli (va_runV (As := [.int x_253]) (rest := []) ⟨hx, hb, hml, hown, hts⟩ (o_r_followsThing l dC dI ad av H.size h0 e0 e2 cl ol k0 k2 f0 g0 i4 i5 i6 i7 x_253 hcl hol) (cwV 1 hts (gi_4 (List.mem_cons_of_mem _ (List.mem_append_left _ (List.mem_of_getElem? (i := 14) rfl))) (List.mem_cons_of_mem _ (List.mem_append_left _ (List.mem_of_getElem? (i := 15) rfl))) (List.mem_cons_of_mem _ (List.mem_append_left _ (List.mem_of_getElem? (i := 16) rfl))) (List.mem_cons_of_mem _ (List.mem_append_left _ (List.mem_of_getElem? (i := 13) rfl))) (fun _ hh => (List.mem_cons_of_mem _ (List.mem_append_right _ (List.mem_append_right _ (List.mem_append_right _ (List.mem_append_left _ hh)))))) gd_o_r_followsThing) rfl rfl rfl (by decide +kernel) ⟨Nat.le_of_ble_eq_true rfl, Nat.le_of_ble_eq_true rfl⟩) ⟨pr_blind, va_recv hKc hPc (ci := 8) (q0 := 0) rfl rfl, pr_use hPc hKc hDc hFc hS hM⟩ rfl rfl hl.1 rfl (lv_room (Nat.le_of_ble_eq_true rfl)) dX8_read_77 ⟨Nat.le_of_ble_eq_true rfl, Nat.le_of_ble_eq_true rfl⟩) hS (fun q _ h => hFc q h) hFc (fun r_254 u t H locs ht hvm hw hB hz1 hk1 hS => ?_)
          refine W.widen (k := 0) (n := 0) (Nat.le_of_ble_eq_true rfl) (Nat.le_of_ble_eq_true rfl) ?_
          subst hw
          rcases hB with ⟨cl_255, ol_256, j_257, j_258, j_259, j_260, f_261, g_262, hre_263, hf_264, hf_265, hP1, hK1, hD1⟩ | ⟨cl_266, ol_267, j_268, j_269, j_270, j_271, f_272, g_273, hre_274, hf_275, hf_276, hP1, hK1, hD1⟩
          · refine lq_top (v := 1) hre_263 ?_
            rw [ht] at hP1
            have hK1 := va_K.moved hvm.symm hK1
            obtain ⟨hP, hD⟩ := va_join (wr := [(sg, .inl (ks, nn, .inl fs))]) (w1 := [(h0, .inr (8, [.ref e0, .int (nI cl_255), .ref e2, .int (nI ol_256), .int j_257, .int j_258, .int j_259, .int j_260])), (e0, .inl (k0, 60, .inl f_261)), (e2, .inl (k2, 60, .inl g_262))]) hP hD [0, 1, 2] [3] rfl rfl (by decide) (by decide) hk1 hFc hP1 hD1
            have hK := (hK.sub (tys' := [(ks, .char)]) [2] rfl).app hK1
            have hP : va_P (dC, dI) vwCl [(sg, .inl (ks, nn, .inl fs)), (h0, .inr (8, [.ref e0, .int (nI cl_255), .ref e2, .int (nI ol_256), .int j_257, .int j_258, .int j_259, .int j_260])), (e0, .inl (k0, 60, .inl f_261)), (e2, .inl (k2, 60, .inl g_262))] H := hP
            have hD : va_D A [(sg, .inl (ks, nn, .inl fs)), (h0, .inr (8, [.ref e0, .int (nI cl_255), .ref e2, .int (nI ol_256), .int j_257, .int j_258, .int j_259, .int j_260])), (e0, .inl (k0, 60, .inl f_261)), (e2, .inl (k2, 60, .inl g_262))] := hD
            have hK : va_K (dC, dI) vwCl [(ks, .char), (k0, .int), (k2, .char)] s := hK
            refine lv_istore (lv' := [(6, .int 1), (5, .int (nI j)), (4, .int (nI nn)), (0, .ref h0), (1, .ref sg), (2, .int (nI nn)), (3, .ref (ad i))]) hx hb dX8_read_80 hl (by decide) rfl (fun ls hl => ?_)
            refine lv_iload hx hb dX8_read_82 (lv_at hl 0 rfl) ?_
            refine lv_if_ne (tgt := 90) hx hb dX8_read_84 (by decide) (fun c_277 => ?_) (fun c_277 => absurd c_277 (by decide))
            refine lv_iinc (v := nI (j + 1)) (lv' := [(5, .int (nI (j + 1))), (6, .int 1), (4, .int (nI nn)), (0, .ref h0), (1, .ref sg), (2, .int (nI nn)), (3, .ref (ad i))]) hx hb dX8_read_90 hl (k := 1) rfl (nI_1 j) (by decide) rfl (fun ls hl => ?_)
            refine lv_goto (tgt := 46) hx hb dX8_read_93 (by decide) ?_
            exact ih_46  (j + 1) cl_255 ol_256 j_257 j_258 j_259 j_260 f_261 g_262 H _ ls (by omega) (by omega) hf_264 hf_265 (hK.sub (tys' := [(k0, .int), (k2, .char), (ks, .char)]) [1, 2, 0] rfl) (hP.sub (ws' := [(h0, .inr (8, [.ref e0, .int (nI cl_255), .ref e2, .int (nI ol_256), .int j_257, .int j_258, .int j_259, .int j_260])), (e0, .inl (k0, 60, .inl f_261)), (e2, .inl (k2, 60, .inl g_262)), (sg, .inl (ks, nn, .inl fs))]) [1, 2, 3, 0] rfl) (hD.sub (ws' := [(h0, .inr (8, [.ref e0, .int (nI cl_255), .ref e2, .int (nI ol_256), .int j_257, .int j_258, .int j_259, .int j_260])), (e0, .inl (k0, 60, .inl f_261)), (e2, .inl (k2, 60, .inl g_262)), (sg, .inl (ks, nn, .inl fs))]) [1, 2, 3, 0] (by decide) rfl) hS (lv_sub hl [0, 2, 3, 4, 5, 6] rfl)
          · refine lq_top (v := 0) hre_274 ?_
            rw [ht] at hP1
            have hK1 := va_K.moved hvm.symm hK1
            obtain ⟨hP, hD⟩ := va_join (wr := [(sg, .inl (ks, nn, .inl fs))]) (w1 := [(h0, .inr (8, [.ref e0, .int (nI cl_266), .ref e2, .int (nI ol_267), .int j_268, .int j_269, .int j_270, .int j_271])), (e0, .inl (k0, 60, .inl f_272)), (e2, .inl (k2, 60, .inl g_273))]) hP hD [0, 1, 2] [3] rfl rfl (by decide) (by decide) hk1 hFc hP1 hD1
            have hK := (hK.sub (tys' := [(ks, .char)]) [2] rfl).app hK1
            have hP : va_P (dC, dI) vwCl [(sg, .inl (ks, nn, .inl fs)), (h0, .inr (8, [.ref e0, .int (nI cl_266), .ref e2, .int (nI ol_267), .int j_268, .int j_269, .int j_270, .int j_271])), (e0, .inl (k0, 60, .inl f_272)), (e2, .inl (k2, 60, .inl g_273))] H := hP
            have hD : va_D A [(sg, .inl (ks, nn, .inl fs)), (h0, .inr (8, [.ref e0, .int (nI cl_266), .ref e2, .int (nI ol_267), .int j_268, .int j_269, .int j_270, .int j_271])), (e0, .inl (k0, 60, .inl f_272)), (e2, .inl (k2, 60, .inl g_273))] := hD
            have hK : va_K (dC, dI) vwCl [(ks, .char), (k0, .int), (k2, .char)] s := hK
            refine lv_istore (lv' := [(6, .int 0), (5, .int (nI j)), (4, .int (nI nn)), (0, .ref h0), (1, .ref sg), (2, .int (nI nn)), (3, .ref (ad i))]) hx hb dX8_read_80 hl (by decide) rfl (fun ls hl => ?_)
            refine lv_iload hx hb dX8_read_82 (lv_at hl 0 rfl) ?_
            refine lv_if_ne (tgt := 90) hx hb dX8_read_84 (by decide) (fun c_278 => absurd c_278 (fun z => z (by decide))) (fun c_278 => ?_)
            refine lv_iload hx hb dX8_read_87 (lv_at hl 1 rfl) ?_
            have hP9 := hP.sub (ws' := [(h0, .inr (8, [.ref e0, .int (nI cl_266), .ref e2, .int (nI ol_267), .int j_268, .int j_269, .int j_270, .int j_271])), (e0, .inl (k0, 60, .inl f_272)), (e2, .inl (k2, 60, .inl g_273))]) [1, 2, 3] rfl
            have hD9 := hD.sub (ws' := [(h0, .inr (8, [.ref e0, .int (nI cl_266), .ref e2, .int (nI ol_267), .int j_268, .int j_269, .int j_270, .int j_271])), (e0, .inl (k0, 60, .inl f_272)), (e2, .inl (k2, 60, .inl g_273))]) [1, 2, 3] (by decide) rfl
            have hK9 := hK.sub (tys' := [(k0, .int), (k2, .char)]) [1, 2] rfl
            exact W.iret (v := nI j) hx hb hr (fun t ht hW => ⟨⟨nI j, nI j, rfl, rfl, ⟨nI j, cl_266, ol_267, j_268, j_269, j_270, j_271, f_272, g_273, rfl, hf_275, hf_276, by rw [ht]; exact hP9, va_K.moved hW.alike hK9, hD9⟩⟩, hS.F ht⟩) hS.2.2 dX8_read_89
        · refine lv_aload_n hx hb dX8_read_60 rfl (lv_at hl 2 rfl) ?_
          refine lv_aload_n hx hb dX8_read_61 rfl (lv_at hl 3 rfl) ?_
          refine lv_iload hx hb dX8_read_62 (lv_at hl 0 rfl) ?_
          refine va_cald hx hb hK hP 3 2 rfl rfl (vp_in_nI (n := j) (by omega) (by omega)) dX8_read_64 ?_
          refine lv_topi (fun x_279 ex_279 => ?_)
          refine lv_aload_n hx hb dX8_read_65 rfl (lv_at hl 5 rfl) ?_
          have hPc := hP.sub (ws' := [(h0, .inr (8, [.ref e0, .int (nI cl), .ref e2, .int (nI ol), .int i4, .int i5, .int i6, .int i7])), (e0, .inl (k0, 60, .inl f0)), (e2, .inl (k2, 60, .inl g0))]) [0, 1, 2] rfl
          have hDc := hD.sub (ws' := [(h0, .inr (8, [.ref e0, .int (nI cl), .ref e2, .int (nI ol), .int i4, .int i5, .int i6, .int i7])), (e0, .inl (k0, 60, .inl f0)), (e2, .inl (k2, 60, .inl g0))]) [0, 1, 2] (by decide) rfl
          have hKc := hK.sub (tys' := [(k0, .int), (k2, .char)]) [0, 1] rfl
          have hFc := va_free (wc := [(h0, .inr (8, [.ref e0, .int (nI cl), .ref e2, .int (nI ol), .int i4, .int i5, .int i6, .int i7])), (e0, .inl (k0, 60, .inl f0)), (e2, .inl (k2, 60, .inl g0))]) hD hS hA [0, 1, 2] rfl
          refine va_calli (va_runV (As := [.int x_279, .ref (ad i)]) (rest := []) ⟨hx, hb, hml, hown, hts⟩ (o_r_beginsThing l dC dI ad av H.size h0 e0 e2 cl ol k0 k2 f0 g0 i4 i5 i6 i7 i x_279 hcl hol (by omega)) (cwV 2 hts (gi_4 (List.mem_cons_of_mem _ (List.mem_append_left _ (List.mem_of_getElem? (i := 17) rfl))) (List.mem_cons_of_mem _ (List.mem_append_left _ (List.mem_of_getElem? (i := 18) rfl))) (List.mem_cons_of_mem _ (List.mem_append_left _ (List.mem_of_getElem? (i := 19) rfl))) (List.mem_cons_of_mem _ (List.mem_append_left _ (List.mem_of_getElem? (i := 13) rfl))) (fun _ hh => (List.mem_cons_of_mem _ (List.mem_append_right _ (List.mem_append_right _ (List.mem_append_right _ (List.mem_append_right _ (List.mem_append_left _ hh))))))) gd_o_r_beginsThing) rfl rfl rfl (by decide +kernel) ⟨Nat.le_of_ble_eq_true rfl, Nat.le_of_ble_eq_true rfl⟩) ⟨pr_blind, va_recv hKc hPc (ci := 8) (q0 := 0) rfl rfl, pr_use hPc hKc hDc hFc hS hM⟩ rfl rfl hl.1 rfl (lv_room (Nat.le_of_ble_eq_true rfl)) dX8_read_66 ⟨Nat.le_of_ble_eq_true rfl, Nat.le_of_ble_eq_true rfl⟩) hS (fun q _ h => hFc q h) hFc (fun r_280 u t H locs ht hvm hw hB hz1 hk1 hS => ?_)
          refine W.widen (k := 0) (n := 0) (Nat.le_of_ble_eq_true rfl) (Nat.le_of_ble_eq_true rfl) ?_
          subst hw
          rcases hB with ⟨cl_281, ol_282, j_283, j_284, j_285, j_286, f_287, g_288, hre_289, hf_290, hf_291, hP1, hK1, hD1⟩ | ⟨cl_292, ol_293, j_294, j_295, j_296, j_297, f_298, g_299, hre_300, hf_301, hf_302, hP1, hK1, hD1⟩
          · refine lq_top (v := 1) hre_289 ?_
            rw [ht] at hP1
            have hK1 := va_K.moved hvm.symm hK1
            obtain ⟨hP, hD⟩ := va_join (wr := [(sg, .inl (ks, nn, .inl fs))]) (w1 := [(h0, .inr (8, [.ref e0, .int (nI cl_281), .ref e2, .int (nI ol_282), .int j_283, .int j_284, .int j_285, .int j_286])), (e0, .inl (k0, 60, .inl f_287)), (e2, .inl (k2, 60, .inl g_288))]) hP hD [0, 1, 2] [3] rfl rfl (by decide) (by decide) hk1 hFc hP1 hD1
            have hK := (hK.sub (tys' := [(ks, .char)]) [2] rfl).app hK1
            have hP : va_P (dC, dI) vwCl [(sg, .inl (ks, nn, .inl fs)), (h0, .inr (8, [.ref e0, .int (nI cl_281), .ref e2, .int (nI ol_282), .int j_283, .int j_284, .int j_285, .int j_286])), (e0, .inl (k0, 60, .inl f_287)), (e2, .inl (k2, 60, .inl g_288))] H := hP
            have hD : va_D A [(sg, .inl (ks, nn, .inl fs)), (h0, .inr (8, [.ref e0, .int (nI cl_281), .ref e2, .int (nI ol_282), .int j_283, .int j_284, .int j_285, .int j_286])), (e0, .inl (k0, 60, .inl f_287)), (e2, .inl (k2, 60, .inl g_288))] := hD
            have hK : va_K (dC, dI) vwCl [(ks, .char), (k0, .int), (k2, .char)] s := hK
            refine lv_goto (tgt := 80) hx hb dX8_read_69 (by decide) ?_
            refine lv_istore (lv' := [(6, .int 1), (5, .int (nI j)), (4, .int (nI nn)), (0, .ref h0), (1, .ref sg), (2, .int (nI nn)), (3, .ref (ad i))]) hx hb dX8_read_80 hl (by decide) rfl (fun ls hl => ?_)
            refine lv_iload hx hb dX8_read_82 (lv_at hl 0 rfl) ?_
            refine lv_if_ne (tgt := 90) hx hb dX8_read_84 (by decide) (fun c_303 => ?_) (fun c_303 => absurd c_303 (by decide))
            refine lv_iinc (v := nI (j + 1)) (lv' := [(5, .int (nI (j + 1))), (6, .int 1), (4, .int (nI nn)), (0, .ref h0), (1, .ref sg), (2, .int (nI nn)), (3, .ref (ad i))]) hx hb dX8_read_90 hl (k := 1) rfl (nI_1 j) (by decide) rfl (fun ls hl => ?_)
            refine lv_goto (tgt := 46) hx hb dX8_read_93 (by decide) ?_
            exact ih_46  (j + 1) cl_281 ol_282 j_283 j_284 j_285 j_286 f_287 g_288 H _ ls (by omega) (by omega) hf_290 hf_291 (hK.sub (tys' := [(k0, .int), (k2, .char), (ks, .char)]) [1, 2, 0] rfl) (hP.sub (ws' := [(h0, .inr (8, [.ref e0, .int (nI cl_281), .ref e2, .int (nI ol_282), .int j_283, .int j_284, .int j_285, .int j_286])), (e0, .inl (k0, 60, .inl f_287)), (e2, .inl (k2, 60, .inl g_288)), (sg, .inl (ks, nn, .inl fs))]) [1, 2, 3, 0] rfl) (hD.sub (ws' := [(h0, .inr (8, [.ref e0, .int (nI cl_281), .ref e2, .int (nI ol_282), .int j_283, .int j_284, .int j_285, .int j_286])), (e0, .inl (k0, 60, .inl f_287)), (e2, .inl (k2, 60, .inl g_288)), (sg, .inl (ks, nn, .inl fs))]) [1, 2, 3, 0] (by decide) rfl) hS (lv_sub hl [0, 2, 3, 4, 5, 6] rfl)
          · refine lq_top (v := 0) hre_300 ?_
            rw [ht] at hP1
            have hK1 := va_K.moved hvm.symm hK1
            obtain ⟨hP, hD⟩ := va_join (wr := [(sg, .inl (ks, nn, .inl fs))]) (w1 := [(h0, .inr (8, [.ref e0, .int (nI cl_292), .ref e2, .int (nI ol_293), .int j_294, .int j_295, .int j_296, .int j_297])), (e0, .inl (k0, 60, .inl f_298)), (e2, .inl (k2, 60, .inl g_299))]) hP hD [0, 1, 2] [3] rfl rfl (by decide) (by decide) hk1 hFc hP1 hD1
            have hK := (hK.sub (tys' := [(ks, .char)]) [2] rfl).app hK1
            have hP : va_P (dC, dI) vwCl [(sg, .inl (ks, nn, .inl fs)), (h0, .inr (8, [.ref e0, .int (nI cl_292), .ref e2, .int (nI ol_293), .int j_294, .int j_295, .int j_296, .int j_297])), (e0, .inl (k0, 60, .inl f_298)), (e2, .inl (k2, 60, .inl g_299))] H := hP
            have hD : va_D A [(sg, .inl (ks, nn, .inl fs)), (h0, .inr (8, [.ref e0, .int (nI cl_292), .ref e2, .int (nI ol_293), .int j_294, .int j_295, .int j_296, .int j_297])), (e0, .inl (k0, 60, .inl f_298)), (e2, .inl (k2, 60, .inl g_299))] := hD
            have hK : va_K (dC, dI) vwCl [(ks, .char), (k0, .int), (k2, .char)] s := hK
            refine lv_goto (tgt := 80) hx hb dX8_read_69 (by decide) ?_
            refine lv_istore (lv' := [(6, .int 0), (5, .int (nI j)), (4, .int (nI nn)), (0, .ref h0), (1, .ref sg), (2, .int (nI nn)), (3, .ref (ad i))]) hx hb dX8_read_80 hl (by decide) rfl (fun ls hl => ?_)
            refine lv_iload hx hb dX8_read_82 (lv_at hl 0 rfl) ?_
            refine lv_if_ne (tgt := 90) hx hb dX8_read_84 (by decide) (fun c_304 => absurd c_304 (fun z => z (by decide))) (fun c_304 => ?_)
            refine lv_iload hx hb dX8_read_87 (lv_at hl 1 rfl) ?_
            have hP9 := hP.sub (ws' := [(h0, .inr (8, [.ref e0, .int (nI cl_292), .ref e2, .int (nI ol_293), .int j_294, .int j_295, .int j_296, .int j_297])), (e0, .inl (k0, 60, .inl f_298)), (e2, .inl (k2, 60, .inl g_299))]) [1, 2, 3] rfl
            have hD9 := hD.sub (ws' := [(h0, .inr (8, [.ref e0, .int (nI cl_292), .ref e2, .int (nI ol_293), .int j_294, .int j_295, .int j_296, .int j_297])), (e0, .inl (k0, 60, .inl f_298)), (e2, .inl (k2, 60, .inl g_299))]) [1, 2, 3] (by decide) rfl
            have hK9 := hK.sub (tys' := [(k0, .int), (k2, .char)]) [1, 2] rfl
            exact W.iret (v := nI j) hx hb hr (fun t ht hW => ⟨⟨nI j, nI j, rfl, rfl, ⟨nI j, cl_292, ol_293, j_294, j_295, j_296, j_297, f_298, g_299, rfl, hf_301, hf_302, by rw [ht]; exact hP9, va_K.moved hW.alike hK9, hD9⟩⟩, hS.F ht⟩) hS.2.2 dX8_read_89
  exact loop_46 ((nn - 0) + 1) 0 0 0 0 0 0 1 f0 g0 H _ ls (by omega) (by omega) (by omega) (by omega) (hK.sub (tys' := [(k0, .int), (k2, .char), (ks, .char)]) [0, 1, 2] rfl) (hP.sub (ws' := [(h0, .inr (8, [.ref e0, .int (nI 0), .ref e2, .int (nI 0), .int 0, .int 0, .int 0, .int 1])), (e0, .inl (k0, 60, .inl f0)), (e2, .inl (k2, 60, .inl g0)), (sg, .inl (ks, nn, .inl fs))]) [0, 1, 2, 3] rfl) (hD.sub (ws' := [(h0, .inr (8, [.ref e0, .int (nI 0), .ref e2, .int (nI 0), .int 0, .int 0, .int 0, .int 1])), (e0, .inl (k0, 60, .inl f0)), (e2, .inl (k2, 60, .inl g0)), (sg, .inl (ks, nn, .inl fs))]) [0, 1, 2, 3] (by decide) rfl) hS (lv_sub hl [0, 1, 2, 3, 4, 5] rfl)
def wo_j_copyOf2 : List Cond := [.arrayClass .int, .methodLink RJ7 304 Lib.Math.min.name, .static Lib.Math.min.name, .initialized "java/lang/Math", .code Lib.Math.min.name Lib.Math.min.code 2 (some .int), .methodLink RJ7 150 arraycopyName, .native arraycopyName, .static arraycopyName, .initialized "java/lang/System", .methodLink RJ7 316 ⟨"[I", "clone", "()Ljava/lang/Object;"⟩, .sameMethod "[I" "java/lang/Object" "clone" "()Ljava/lang/Object;", .native ⟨"java/lang/Object", "clone", "()Ljava/lang/Object;"⟩, .instanceMethod ⟨"java/lang/Object", "clone", "()Ljava/lang/Object;"⟩, .selects "[I" ⟨"[I", "clone", "()Ljava/lang/Object;"⟩ ⟨"java/lang/Object", "clone", "()Ljava/lang/Object;"⟩, .classLink RJ7 317 "[I"]
def wm_j_copyOf2 : List Cond := .code yJ7_copyOf_59c91 cJ7_copyOf_59c91 3 (some (.array .int)) :: (wo_j_copyOf2 ++ ([] : List Cond))
theorem gd_j_copyOf2 : ∀ w ∈ wm_j_copyOf2, goodWord w = true := gd_c rfl (gd_a (by decide) gd_nil)
set_option maxRecDepth 20000 in
theorem im_j_copyOf2 : ∀ w ∈ wm_j_copyOf2, w ∈ lw_tbl := im_c (in_r [.code yJ7_copyOf_59c91 cJ7_copyOf_59c91 3 (some (.array .int))] [367] (by decide +kernel)) (in_app (in_r wo_j_copyOf2 [155, 375, 260, 78, 261, 376, 378, 377, 82, 368, 369, 370, 371, 372, 374] (by decide +kernel)) im_nil)
set_option maxHeartbeats 4000000 in
set_option maxRecDepth 100000 in
theorem j_copyOf2 (l : Launch) (dC : Nat → ClassId) (dI : Nat → Nat → Nat) (ad av : Nat → Nat) (sz : Nat) (q0 : Nat) (cl : Nat) (k0 : ClassId) (f0 : Nat → Int32) (hc : cl ≤ 60) : Met l yJ7_copyOf_59c91 wm_j_copyOf2 ({ frames := 3, cells := 1, slots := 60, locals := 100 }) (pr_ ad av (dC, dI) sz [.ref q0, .int (nI cl)] [(q0, .inl (k0, 60, .inl f0))] [(k0, .int)]) (va_Qr (fun (_ : Unit) => True) (fun (_ : Unit) (a : Nat) (t : State) => (∃ (q1 : Nat), ∃ (nn : Nat), ∃ (k1 : ClassId), ∃ (f1 : Nat → Int32), a = q1 ∧ nn ≤ 60 ∧ po_ (dC, dI) (va_A [(q0, .inl (k0, 60, .inl f0))] sz) [(q0, .inl (k0, 60, .inl f0)), (q1, .inl (k1, nn, .inl f1))] [(k0, .int), (k1, .int)] t)) (va_A [(q0, .inl (k0, 60, .inl f0))] sz)) 1 60 (va_A [(q0, .inl (k0, 60, .inl f0))] sz) := by
  refine Met.ofW (cc := cJ7_copyOf_59c91) (maxL := 3) (ret := (some (.array .int))) (by decide) rfl ?_
  intro p e s m args below meth c s₁ B hml hv
  obtain ⟨rfl, hsz, hP, hK, hD0, hM⟩ := hv
  have hx := B.exec
  have hb := B.bytes
  have hr := B.returns
  have hts := atoms_spec (ws := wm_j_copyOf2) B.pre
  have hown : s.vm.findClass RJ7 = some m.cls := findClass_of_methodNamed B.named
  have hlocks := B.notSynchronized
  subst hsz
  have hD := hD0.self (sz := s.heap.size)
  generalize hAe : va_A [(q0, .inl (k0, 60, .inl f0))] s.heap.size = A at hD hM ⊢
  have hA : ∀ q : Nat, s.heap.size ≤ q → A q := fun q h => by rw [← hAe]; exact Or.inr h
  have hS : va_S A s.heap s.heap [] := va_S.rf
  have hP : va_P (dC, dI) vwCl [(q0, .inl (k0, 60, .inl f0))] s.heap := hP
  have hl := lv_entry ([.ref q0, .int (nI cl)]) (n := 3) (Nat.le_of_ble_eq_true rfl)
  rw [lg_entry_eq]
  generalize (lg_sl ([.ref q0, .int (nI cl)]) ++ List.replicate (3 - (lg_sl ([.ref q0, .int (nI cl)])).length) Slot.unset).toArray = ls at hl ⊢
  have hl : lv_has ls 3 [(0, .ref q0), (1, .int (nI cl))] := hl
  refine lv_iload_n hx hb dJ7_copyOf_59c91_0 rfl (lv_at hl 1 rfl) ?_
  refine lv_aload_n hx hb dJ7_copyOf_59c91_1 rfl (lv_at hl 0 rfl) ?_
  refine va_alen (v := 60) hx hb hK hP 0 0 rfl rfl rfl dJ7_copyOf_59c91_2 ?_
  refine lv_icmp_ne (tgt := 14) hx hb dJ7_copyOf_59c91_3 (by decide) (fun c_1 => ?_) (fun c_1 => ?_)
  · have hn_c_1 := q_ne cl 60 c_1 rfl rfl (by omega) (by omega)
    refine lv_iload_n hx hb dJ7_copyOf_59c91_14 rfl (lv_at hl 1 rfl) ?_
    refine va_newa (atype := .int) hx hb (hts (.arrayClass .int) (List.mem_cons_of_mem _ (List.mem_append_left _ (List.mem_of_getElem? (i := 0) rfl)))) (ty := .int) rfl hK hP hD hS hA (N' := cl) (a0 := (cl, .inl (fun _ => 0))) (fun _ => rfl) (nI_pos (by omega)) (nI_clamp (by omega)) (by show cl * _ ≤ _; simp only [componentBytes]; omega) (Nat.le_of_ble_eq_true rfl) (by show 0 + cl ≤ 60; omega) dJ7_copyOf_59c91_15 (fun q_2 cA_3 H hK hP hD hS => ?_)
    refine W.widen (k := 1) (n := 60) (Nat.le_of_ble_eq_true rfl) (by omega) ?_
    have hP : va_P (dC, dI) vwCl [(q0, .inl (k0, 60, .inl f0)), (q_2, .inl (cA_3, cl, .inl (fun _ => 0)))] H := hP
    have hD : va_D A [(q0, .inl (k0, 60, .inl f0)), (q_2, .inl (cA_3, cl, .inl (fun _ => 0)))] := hD
    have hK : va_K (dC, dI) vwCl [(k0, .int), (cA_3, .int)] s := hK
    refine lv_astore_n (lv' := [(2, .ref q_2), (0, .ref q0), (1, .int (nI cl))]) hx hb dJ7_copyOf_59c91_17 rfl hl (by decide) rfl (fun ls hl => ?_)
    refine lv_aload_n hx hb dJ7_copyOf_59c91_18 rfl (lv_at hl 1 rfl) ?_
    refine lv_iconst (v := 0) hx hb dJ7_copyOf_59c91_19 (by decide) ?_
    refine lv_aload_n hx hb dJ7_copyOf_59c91_20 rfl (lv_at hl 0 rfl) ?_
    refine lv_iconst (v := 0) hx hb dJ7_copyOf_59c91_21 (by decide) ?_
    refine lv_aload_n hx hb dJ7_copyOf_59c91_22 rfl (lv_at hl 1 rfl) ?_
    refine va_alen (v := 60) hx hb hK hP 0 0 rfl rfl rfl dJ7_copyOf_59c91_23 ?_
    refine lv_iload_n hx hb dJ7_copyOf_59c91_24 rfl (lv_at hl 2 rfl) ?_
    refine va_mmin hx hb (by rw [hml]; exact hl.1.symm) hown (hts (.methodLink RJ7 304 Lib.Math.min.name) (List.mem_cons_of_mem _ (List.mem_append_left _ (List.mem_of_getElem? (i := 1) rfl)))) (hts (.static Lib.Math.min.name) (List.mem_cons_of_mem _ (List.mem_append_left _ (List.mem_of_getElem? (i := 2) rfl)))) (hts (.initialized "java/lang/Math") (List.mem_cons_of_mem _ (List.mem_append_left _ (List.mem_of_getElem? (i := 3) rfl)))) (hts (.code Lib.Math.min.name Lib.Math.min.code 2 (some .int)) (List.mem_cons_of_mem _ (List.mem_append_left _ (List.mem_of_getElem? (i := 4) rfl)))) (Nat.le_of_ble_eq_true rfl) (Nat.le_of_ble_eq_true rfl) (Nat.le_of_ble_eq_true rfl) (Nat.le_of_ble_eq_true rfl) dJ7_copyOf_59c91_25 ?_
    refine lq_top (v := nI cl) (q_min 60 cl rfl rfl (by omega) (by omega) (by omega)) ?_
    refine va_copyi (ty := .int) hx hb (by rw [hml]; exact hl.1.symm) hown (hts (.methodLink RJ7 150 arraycopyName) (List.mem_cons_of_mem _ (List.mem_append_left _ (List.mem_of_getElem? (i := 5) rfl)))) (hts (.native arraycopyName) (List.mem_cons_of_mem _ (List.mem_append_left _ (List.mem_of_getElem? (i := 6) rfl)))) (hts (.static arraycopyName) (List.mem_cons_of_mem _ (List.mem_append_left _ (List.mem_of_getElem? (i := 7) rfl)))) (hts (.initialized "java/lang/System") (List.mem_cons_of_mem _ (List.mem_append_left _ (List.mem_of_getElem? (i := 8) rfl)))) hK hP hD hS 0 1 0 1 rfl rfl rfl rfl rfl (by decide) (by decide) (nI_pos (by omega)) (by rw [sb_cl0, nI_clamp (by omega)]; omega) (by rw [sb_cl0, nI_clamp (by omega)]; omega) (fun i hi => rfl) (Nat.le_of_ble_eq_true rfl) (Nat.le_of_ble_eq_true rfl) dJ7_copyOf_59c91_28 (fun H locs hP hD hS => ?_)
    obtain ⟨f_4, ef_4⟩ : ∃ y : Nat → Int32, y = va_cpy f0 (fun _ => 0) (0 : Int32).toNatClampNeg (0 : Int32).toNatClampNeg (nI cl).toNatClampNeg := ⟨_, rfl⟩
    have hP : va_P (dC, dI) vwCl [(q0, .inl (k0, 60, .inl f0)), (q_2, .inl (cA_3, cl, .inl f_4))] H := by rw [ef_4]; exact hP
    have hD : va_D A [(q0, .inl (k0, 60, .inl f0)), (q_2, .inl (cA_3, cl, .inl f_4))] := by rw [ef_4]; exact hD
    refine lv_aload_n hx hb dJ7_copyOf_59c91_31 rfl (lv_at hl 0 rfl) ?_
    have hP9 := hP.sub (ws' := [(q0, .inl (k0, 60, .inl f0)), (q_2, .inl (cA_3, cl, .inl f_4))]) [0, 1] rfl
    have hD9 := hD.sub (ws' := [(q0, .inl (k0, 60, .inl f0)), (q_2, .inl (cA_3, cl, .inl f_4))]) [0, 1] (by decide) rfl
    have hK9 := hK.sub (tys' := [(k0, .int), (cA_3, .int)]) [0, 1] rfl
    exact W.aret (v := .ref q_2) hx hb hr (by first | exact Or.inl ⟨_, rfl⟩ | exact Or.inr ⟨_, rfl⟩) (Or.inr ⟨_, rfl⟩) (fun t ht hW => ⟨⟨(), q_2, rfl, trivial, ⟨q_2, cl, cA_3, f_4, rfl, (by omega), by rw [ht]; exact hP9, va_K.moved hW.alike hK9, hD9⟩⟩, hS.F ht⟩) hS.2.2 dJ7_copyOf_59c91_32
  · have hn_c_1 := q_eq cl 60 c_1 rfl rfl (by omega) (by omega)
    refine lv_aload_n hx hb dJ7_copyOf_59c91_6 rfl (lv_at hl 0 rfl) ?_
    refine va_clone (ty := .int) hx hb (by rw [hml]; exact hl.1.symm) hown (hts (.methodLink RJ7 316 ⟨"[I", "clone", "()Ljava/lang/Object;"⟩) (List.mem_cons_of_mem _ (List.mem_append_left _ (List.mem_of_getElem? (i := 9) rfl)))) (hts (.sameMethod "[I" "java/lang/Object" "clone" "()Ljava/lang/Object;") (List.mem_cons_of_mem _ (List.mem_append_left _ (List.mem_of_getElem? (i := 10) rfl)))) (hts (.native ⟨"java/lang/Object", "clone", "()Ljava/lang/Object;"⟩) (List.mem_cons_of_mem _ (List.mem_append_left _ (List.mem_of_getElem? (i := 11) rfl)))) (hts (.instanceMethod ⟨"java/lang/Object", "clone", "()Ljava/lang/Object;"⟩) (List.mem_cons_of_mem _ (List.mem_append_left _ (List.mem_of_getElem? (i := 12) rfl)))) (hts (.selects "[I" ⟨"[I", "clone", "()Ljava/lang/Object;"⟩ ⟨"java/lang/Object", "clone", "()Ljava/lang/Object;"⟩) (List.mem_cons_of_mem _ (List.mem_append_left _ (List.mem_of_getElem? (i := 13) rfl)))) hM.2.2.2.2.2.2.2.1 hK hP hD hS hA 0 0 rfl rfl (va_nm_int (hK.2 0 _ rfl).2) (va_fit (F := fun j => .int (f0 j)) (fun _ _ => rfl)) (Nat.le_of_ble_eq_true rfl) (Nat.le_of_ble_eq_true rfl) (Nat.le_of_ble_eq_true rfl) (Nat.le_of_ble_eq_true rfl) dJ7_copyOf_59c91_7 (fun q_5 H hK hP hD hS => ?_)
    refine W.widen (k := 1) (n := 60) (Nat.le_of_ble_eq_true rfl) (Nat.le_of_ble_eq_true rfl) ?_
    have hP : va_P (dC, dI) vwCl [(q0, .inl (k0, 60, .inl f0)), (q_5, .inl (k0, 60, .inl f0))] H := hP
    have hD : va_D A [(q0, .inl (k0, 60, .inl f0)), (q_5, .inl (k0, 60, .inl f0))] := hD
    have hK : va_K (dC, dI) vwCl [(k0, .int)] s := hK.sub [0] rfl
    refine va_castA hx hb hown (hts (.classLink RJ7 317 "[I") (List.mem_cons_of_mem _ (List.mem_append_left _ (List.mem_of_getElem? (i := 14) rfl)))) hP 1 rfl (va_nm_int (hK.2 0 _ rfl).2) dJ7_copyOf_59c91_10 ?_
    have hP9 := hP.sub (ws' := [(q0, .inl (k0, 60, .inl f0)), (q_5, .inl (k0, 60, .inl f0))]) [0, 1] rfl
    have hD9 := hD.sub (ws' := [(q0, .inl (k0, 60, .inl f0)), (q_5, .inl (k0, 60, .inl f0))]) [0, 1] (by decide) rfl
    have hK9 := hK.sub (tys' := [(k0, .int), (k0, .int)]) [0, 0] rfl
    exact W.aret (v := .ref q_5) hx hb hr (by first | exact Or.inl ⟨_, rfl⟩ | exact Or.inr ⟨_, rfl⟩) (Or.inr ⟨_, rfl⟩) (fun t ht hW => ⟨⟨(), q_5, rfl, trivial, ⟨q_5, 60, k0, f0, rfl, (by omega), by rw [ht]; exact hP9, va_K.moved hW.alike hK9, hD9⟩⟩, hS.F ht⟩) hS.2.2 dJ7_copyOf_59c91_13
def wo_o_r_codeRead2 : List Cond := [.fieldLink RX8 11 "TypingPool$Reader" "code" "[I", .fieldLink RX8 19 "TypingPool$Reader" "codeLength" "I", .methodLink RX8 57 yJ7_copyOf_59c91, .static yJ7_copyOf_59c91, .initialized RJ7]
def wm_o_r_codeRead2 : List Cond := .code yX8_codeRead cX8_codeRead 1 (some (.array .int)) :: (wo_o_r_codeRead2 ++ (wsX80 ++ (wm_j_copyOf2 ++ ([] : List Cond))))
theorem gd_o_r_codeRead2 : ∀ w ∈ wm_o_r_codeRead2, goodWord w = true := gd_c rfl (gd_a (by decide) (gd_a gd_wsX80 (gd_a gd_j_copyOf2 gd_nil)))
set_option maxRecDepth 20000 in
theorem im_o_r_codeRead2 : ∀ w ∈ wm_o_r_codeRead2, w ∈ lw_tbl := im_c (in_r [.code yX8_codeRead cX8_codeRead 1 (some (.array .int))] [364] (by decide +kernel)) (in_app (in_r wo_o_r_codeRead2 [170, 171, 365, 366, 81] (by decide +kernel)) (in_app im_wsX80 (in_app im_j_copyOf2 im_nil)))
set_option maxHeartbeats 4000000 in
set_option maxRecDepth 100000 in
theorem o_r_codeRead2 (l : Launch) (dC : Nat → ClassId) (dI : Nat → Nat → Nat) (ad av : Nat → Nat) (sz : Nat) (h0 : Nat) (e0 : Nat) (e2 : Nat) (cl : Nat) (ol : Nat) (k0 : ClassId) (k2 : ClassId) (f0 : Nat → Int32) (g0 : Nat → Int32) (i4 : Int32) (i5 : Int32) (i6 : Int32) (i7 : Int32) (hcl : cl ≤ 60) (hol : ol ≤ 60) : Met l yX8_codeRead wm_o_r_codeRead2 ({ frames := 5, cells := 1, slots := 60, locals := 160 }) (pr_ ad av (dC, dI) sz [.ref h0] [(h0, .inr (8, [.ref e0, .int (nI cl), .ref e2, .int (nI ol), .int i4, .int i5, .int i6, .int i7])), (e0, .inl (k0, 60, .inl f0)), (e2, .inl (k2, 60, .inl g0))] [(k0, .int), (k2, .char)]) (va_Qr (fun (_ : Unit) => True) (fun (_ : Unit) (a : Nat) (t : State) => (∃ (q1 : Nat), ∃ (nn : Nat), ∃ (k1 : ClassId), ∃ (f1 : Nat → Int32), a = q1 ∧ nn ≤ 60 ∧ po_ (dC, dI) (va_A [(h0, .inr (8, [.ref e0, .int (nI cl), .ref e2, .int (nI ol), .int i4, .int i5, .int i6, .int i7])), (e0, .inl (k0, 60, .inl f0)), (e2, .inl (k2, 60, .inl g0))] sz) [(h0, .inr (8, [.ref e0, .int (nI cl), .ref e2, .int (nI ol), .int i4, .int i5, .int i6, .int i7])), (e0, .inl (k0, 60, .inl f0)), (e2, .inl (k2, 60, .inl g0)), (q1, .inl (k1, nn, .inl f1))] [(k0, .int), (k2, .char), (k1, .int)] t)) (va_A [(h0, .inr (8, [.ref e0, .int (nI cl), .ref e2, .int (nI ol), .int i4, .int i5, .int i6, .int i7])), (e0, .inl (k0, 60, .inl f0)), (e2, .inl (k2, 60, .inl g0))] sz)) 1 60 (va_A [(h0, .inr (8, [.ref e0, .int (nI cl), .ref e2, .int (nI ol), .int i4, .int i5, .int i6, .int i7])), (e0, .inl (k0, 60, .inl f0)), (e2, .inl (k2, 60, .inl g0))] sz) := by
  refine Met.ofW (cc := cX8_codeRead) (maxL := 1) (ret := (some (.array .int))) (by decide) rfl ?_
  intro p e s m args below meth c s₁ B hml hv
  obtain ⟨rfl, hsz, hP, hK, hD0, hM⟩ := hv
  have hx := B.exec
  have hb := B.bytes
  have hr := B.returns
  have hts := atoms_spec (ws := wm_o_r_codeRead2) B.pre
  have hown : s.vm.findClass RX8 = some m.cls := findClass_of_methodNamed B.named
  have hlocks := B.notSynchronized
  subst hsz
  have hD := hD0.self (sz := s.heap.size)
  generalize hAe : va_A [(h0, .inr (8, [.ref e0, .int (nI cl), .ref e2, .int (nI ol), .int i4, .int i5, .int i6, .int i7])), (e0, .inl (k0, 60, .inl f0)), (e2, .inl (k2, 60, .inl g0))] s.heap.size = A at hD hM ⊢
  have hA : ∀ q : Nat, s.heap.size ≤ q → A q := fun q h => by rw [← hAe]; exact Or.inr h
  have hS : va_S A s.heap s.heap [] := va_S.rf
  have hP : va_P (dC, dI) vwCl [(h0, .inr (8, [.ref e0, .int (nI cl), .ref e2, .int (nI ol), .int i4, .int i5, .int i6, .int i7])), (e0, .inl (k0, 60, .inl f0)), (e2, .inl (k2, 60, .inl g0))] s.heap := hP
  have hl := lv_entry ([.ref h0]) (n := 1) (Nat.le_of_ble_eq_true rfl)
  rw [lg_entry_eq]
  generalize (lg_sl ([.ref h0]) ++ List.replicate (1 - (lg_sl ([.ref h0])).length) Slot.unset).toArray = ls at hl ⊢
  have hl : lv_has ls 1 [(0, .ref h0)] := hl
  refine lv_aload_n hx hb dX8_codeRead_0 rfl (lv_at hl 0 rfl) ?_
  refine va_get (D := (dC, dI)) (ci := 8) (v := .ref e0) (C := RX8) (T := TX8) (N := 8) hx hb hts (fun _ hh => (List.mem_cons_of_mem _ (List.mem_append_right _ (List.mem_append_left _ hh)))) hown hK hP 0 rfl rfl 0 (by decide) (hts (.fieldLink RX8 11 "TypingPool$Reader" "code" "[I") (List.mem_cons_of_mem _ (List.mem_append_left _ (List.mem_of_getElem? (i := 0) rfl)))) (fun _ h9 => h9) rfl dX8_codeRead_1 ?_
  refine lv_aload_n hx hb dX8_codeRead_4 rfl (lv_at hl 0 rfl) ?_
  refine va_get (D := (dC, dI)) (ci := 8) (v := .int (nI cl)) (C := RX8) (T := TX8) (N := 8) hx hb hts (fun _ hh => (List.mem_cons_of_mem _ (List.mem_append_right _ (List.mem_append_left _ hh)))) hown hK hP 0 rfl rfl 1 (by decide) (hts (.fieldLink RX8 19 "TypingPool$Reader" "codeLength" "I") (List.mem_cons_of_mem _ (List.mem_append_left _ (List.mem_of_getElem? (i := 1) rfl)))) (fun _ h9 => h9) rfl dX8_codeRead_5 ?_
  have hPc := hP.sub (ws' := [(e0, .inl (k0, 60, .inl f0))]) [1] rfl
  have hDc := hD.sub (ws' := [(e0, .inl (k0, 60, .inl f0))]) [1] (by decide) rfl
  have hKc := hK.sub (tys' := [(k0, .int)]) [0] rfl
  have hFc := va_free (wc := [(e0, .inl (k0, 60, .inl f0))]) hD hS hA [1] rfl
  refine va_callr (va_runS (As := [.ref e0, .int (nI cl)]) (rest := []) ⟨hx, hb, hml, hown, hts⟩ (j_copyOf2 l dC dI ad av s.heap.size e0 cl k0 f0 (by omega)) (va_cwS 2 hts (gi_3 (List.mem_cons_of_mem _ (List.mem_append_left _ (List.mem_of_getElem? (i := 2) rfl))) (List.mem_cons_of_mem _ (List.mem_append_left _ (List.mem_of_getElem? (i := 3) rfl))) (List.mem_cons_of_mem _ (List.mem_append_left _ (List.mem_of_getElem? (i := 4) rfl))) (fun _ hh => (List.mem_cons_of_mem _ (List.mem_append_right _ (List.mem_append_right _ (List.mem_append_left _ hh))))) gd_j_copyOf2) rfl rfl rfl (by decide +kernel) ⟨Nat.le_of_ble_eq_true rfl, Nat.le_of_ble_eq_true rfl⟩) ⟨pr_blind, pr_use hPc hKc hDc hFc hS hM⟩ rfl rfl hl.1 rfl (lv_room (Nat.le_of_ble_eq_true rfl)) dX8_codeRead_8 ⟨Nat.le_of_ble_eq_true rfl, Nat.le_of_ble_eq_true rfl⟩) hS (fun q _ h => hFc q h) hFc (fun u r_6 t H locs ht hvm hw hB hz1 hk1 hS => ?_)
  refine W.widen (k := 1) (n := 60) (Nat.le_of_ble_eq_true rfl) (Nat.le_of_ble_eq_true rfl) ?_
  obtain ⟨q_7, nn_8, k_9, f_10, hre_11, hf_12, hP1, hK1, hD1⟩ := hB
  rw [hre_11]
  rw [ht] at hP1
  have hK1 := va_K.moved hvm.symm hK1
  obtain ⟨hP, hD⟩ := va_join (wr := [(h0, .inr (8, [.ref e0, .int (nI cl), .ref e2, .int (nI ol), .int i4, .int i5, .int i6, .int i7])), (e2, .inl (k2, 60, .inl g0))]) (w1 := [(e0, .inl (k0, 60, .inl f0)), (q_7, .inl (k_9, nn_8, .inl f_10))]) hP hD [1] [0, 2] rfl rfl (by decide) (by decide) hk1 hFc hP1 hD1
  have hK := (hK.sub (tys' := [(k2, .char)]) [1] rfl).app hK1
  have hP : va_P (dC, dI) vwCl [(h0, .inr (8, [.ref e0, .int (nI cl), .ref e2, .int (nI ol), .int i4, .int i5, .int i6, .int i7])), (e2, .inl (k2, 60, .inl g0)), (e0, .inl (k0, 60, .inl f0)), (q_7, .inl (k_9, nn_8, .inl f_10))] H := hP
  have hD : va_D A [(h0, .inr (8, [.ref e0, .int (nI cl), .ref e2, .int (nI ol), .int i4, .int i5, .int i6, .int i7])), (e2, .inl (k2, 60, .inl g0)), (e0, .inl (k0, 60, .inl f0)), (q_7, .inl (k_9, nn_8, .inl f_10))] := hD
  have hK : va_K (dC, dI) vwCl [(k2, .char), (k0, .int), (k_9, .int)] s := hK
  have hP9 := hP.sub (ws' := [(h0, .inr (8, [.ref e0, .int (nI cl), .ref e2, .int (nI ol), .int i4, .int i5, .int i6, .int i7])), (e0, .inl (k0, 60, .inl f0)), (e2, .inl (k2, 60, .inl g0)), (q_7, .inl (k_9, nn_8, .inl f_10))]) [0, 2, 1, 3] rfl
  have hD9 := hD.sub (ws' := [(h0, .inr (8, [.ref e0, .int (nI cl), .ref e2, .int (nI ol), .int i4, .int i5, .int i6, .int i7])), (e0, .inl (k0, 60, .inl f0)), (e2, .inl (k2, 60, .inl g0)), (q_7, .inl (k_9, nn_8, .inl f_10))]) [0, 2, 1, 3] (by decide) rfl
  have hK9 := hK.sub (tys' := [(k0, .int), (k2, .char), (k_9, .int)]) [1, 0, 2] rfl
  exact W.aret (v := .ref q_7) hx hb hr (by first | exact Or.inl ⟨_, rfl⟩ | exact Or.inr ⟨_, rfl⟩) (Or.inr ⟨_, rfl⟩) (fun t ht hW => ⟨⟨(), q_7, rfl, trivial, ⟨q_7, nn_8, k_9, f_10, rfl, hf_12, by rw [ht]; exact hP9, va_K.moved hW.alike hK9, hD9⟩⟩, hS.F ht⟩) hS.2.2 dX8_codeRead_11
def wo_o_c_Rule_init : List Cond := [.methodLink RX9 1 objectInit, .instanceMethod objectInit, .code objectInit ⟨#[0xb1]⟩ 1 none, .fieldLink RX9 7 "TypingPool$Rule" "kind" "I", .fieldLink RX9 13 "TypingPool$Rule" "day" "I", .fieldLink RX9 16 "TypingPool$Rule" "code" "[I"]
def wm_o_c_Rule_init : List Cond := .code yX9_init cX9_init 4 none :: (wo_o_c_Rule_init ++ (wsX90 ++ ([] : List Cond)))
theorem gd_o_c_Rule_init : ∀ w ∈ wm_o_c_Rule_init, goodWord w = true := gd_c rfl (gd_a (by decide) (gd_a gd_wsX90 gd_nil))
set_option maxRecDepth 20000 in
theorem im_o_c_Rule_init : ∀ w ∈ wm_o_c_Rule_init, w ∈ lw_tbl := im_c (in_r [.code yX9_init cX9_init 4 none] [381] (by decide +kernel)) (in_app (in_r wo_o_c_Rule_init [382, 102, 103, 383, 385, 387] (by decide +kernel)) (in_app im_wsX90 im_nil))
set_option maxHeartbeats 4000000 in
set_option maxRecDepth 100000 in
theorem o_c_Rule_init (l : Launch) (dC : Nat → ClassId) (dI : Nat → Nat → Nat) (ad av : Nat → Nat) (sz : Nat) (h0 : Nat) (q0 : Nat) (p0 : Int32) (p1 : Int32) : Met l yX9_init wm_o_c_Rule_init ({ frames := 1, cells := 0, slots := 0, locals := 12 }) (pr_ ad av (dC, dI) sz [.ref h0, .int p0, .int p1, .ref q0] [(h0, .inr (9, [.int 0, .int 0, .null]))] []) (va_Qv (fun (_ : Unit) => True) (fun (_ : Unit) (t : State) => (po_ (dC, dI) (va_A [(h0, .inr (9, [.int 0, .int 0, .null]))] sz) [(h0, .inr (9, [.int p0, .int p1, .ref q0]))] [] t)) (va_A [(h0, .inr (9, [.int 0, .int 0, .null]))] sz)) 0 0 (va_A [(h0, .inr (9, [.int 0, .int 0, .null]))] sz) := by
  refine Met.ofW (cc := cX9_init) (maxL := 4) (ret := none) (by decide) rfl ?_
  intro p e s m args below meth c s₁ B hml hv
  obtain ⟨rfl, hsz, hP, hK, hD0, hM⟩ := hv
  have hx := B.exec
  have hb := B.bytes
  have hr := B.returns
  have hts := atoms_spec (ws := wm_o_c_Rule_init) B.pre
  have hown : s.vm.findClass RX9 = some m.cls := findClass_of_methodNamed B.named
  have hlocks := B.notSynchronized
  have hin : meth.name = "<init>" := (name_of_methodNamed B.named B.method).1
  subst hsz
  have hD := hD0.self (sz := s.heap.size)
  generalize hAe : va_A [(h0, .inr (9, [.int 0, .int 0, .null]))] s.heap.size = A at hD hM ⊢
  have hA : ∀ q : Nat, s.heap.size ≤ q → A q := fun q h => by rw [← hAe]; exact Or.inr h
  have hS : va_S A s.heap s.heap [] := va_S.rf
  have hP : va_P (dC, dI) vwCl [(h0, .inr (9, [.int 0, .int 0, .null]))] s.heap := hP
  have hl := lv_entry ([.ref h0, .int p0, .int p1, .ref q0]) (n := 4) (Nat.le_of_ble_eq_true rfl)
  rw [lg_entry_eq]
  generalize (lg_sl ([.ref h0, .int p0, .int p1, .ref q0]) ++ List.replicate (4 - (lg_sl ([.ref h0, .int p0, .int p1, .ref q0])).length) Slot.unset).toArray = ls at hl ⊢
  have hl : lv_has ls 4 [(0, .ref h0), (1, .int p0), (2, .int p1), (3, .ref q0)] := hl
  refine lv_aload_n hx hb dX9_init_0 rfl (lv_at hl 0 rfl) ?_
  refine W.objInit hx hb hown (hts (.methodLink RX9 1 objectInit) (List.mem_cons_of_mem _ (List.mem_append_left _ (List.mem_of_getElem? (i := 0) rfl)))) (hts (.instanceMethod objectInit) (List.mem_cons_of_mem _ (List.mem_append_left _ (List.mem_of_getElem? (i := 1) rfl)))) (hts (.code objectInit ⟨#[0xb1]⟩ 1 none) (List.mem_cons_of_mem _ (List.mem_append_left _ (List.mem_of_getElem? (i := 2) rfl)))) rfl (by rw [hml]; exact hl.1) rfl dX9_init_1 (Nat.le_of_ble_eq_true rfl) (Nat.le_of_ble_eq_true rfl) ?_
  refine W.eq (g2 := F0 m 4 ls []) rfl ?_
  refine lv_aload_n hx hb dX9_init_4 rfl (lv_at hl 0 rfl) ?_
  refine lv_iload_n hx hb dX9_init_5 rfl (lv_at hl 1 rfl) ?_
  refine va_putF (D := (dC, dI)) (ci := 9) (v := .int p0) (ty := .int) (C := RX9) (T := TX9) (N := 3) hx hb hts (fun _ hh => (List.mem_cons_of_mem _ (List.mem_append_right _ (List.mem_append_left _ hh)))) tyX9 tyX9_ok nmX9 hown hK hP hD hS 0 rfl rfl 0 (by decide) (hts (.fieldLink RX9 7 "TypingPool$Rule" "kind" "I") (List.mem_cons_of_mem _ (List.mem_append_left _ (List.mem_of_getElem? (i := 3) rfl)))) (fun _ h9 => h9) rfl hin rfl (tyX9_ok 0 (by decide)) rfl rfl (Nat.le_of_ble_eq_true rfl) dX9_init_6 (fun H locs hP hD hS => ?_)
  have hP : va_P (dC, dI) vwCl [(h0, .inr (9, [.int p0, .int 0, .null]))] H := hP
  have hD : va_D A [(h0, .inr (9, [.int p0, .int 0, .null]))] := hD
  refine lv_aload_n hx hb dX9_init_9 rfl (lv_at hl 0 rfl) ?_
  refine lv_iload_n hx hb dX9_init_10 rfl (lv_at hl 2 rfl) ?_
  refine va_putF (D := (dC, dI)) (ci := 9) (v := .int p1) (ty := .int) (C := RX9) (T := TX9) (N := 3) hx hb hts (fun _ hh => (List.mem_cons_of_mem _ (List.mem_append_right _ (List.mem_append_left _ hh)))) tyX9 tyX9_ok nmX9 hown hK hP hD hS 0 rfl rfl 1 (by decide) (hts (.fieldLink RX9 13 "TypingPool$Rule" "day" "I") (List.mem_cons_of_mem _ (List.mem_append_left _ (List.mem_of_getElem? (i := 4) rfl)))) (fun _ h9 => h9) rfl hin rfl (tyX9_ok 1 (by decide)) rfl rfl (Nat.le_of_ble_eq_true rfl) dX9_init_11 (fun H locs hP hD hS => ?_)
  have hP : va_P (dC, dI) vwCl [(h0, .inr (9, [.int p0, .int p1, .null]))] H := hP
  have hD : va_D A [(h0, .inr (9, [.int p0, .int p1, .null]))] := hD
  refine lv_aload_n hx hb dX9_init_14 rfl (lv_at hl 0 rfl) ?_
  refine lv_aload_n hx hb dX9_init_15 rfl (lv_at hl 3 rfl) ?_
  refine va_putF (D := (dC, dI)) (ci := 9) (v := .ref q0) (ty := .array .int) (C := RX9) (T := TX9) (N := 3) hx hb hts (fun _ hh => (List.mem_cons_of_mem _ (List.mem_append_right _ (List.mem_append_left _ hh)))) tyX9 tyX9_ok nmX9 hown hK hP hD hS 0 rfl rfl 2 (by decide) (hts (.fieldLink RX9 16 "TypingPool$Rule" "code" "[I") (List.mem_cons_of_mem _ (List.mem_append_left _ (List.mem_of_getElem? (i := 5) rfl)))) (fun _ h9 => h9) rfl hin rfl (tyX9_ok 2 (by decide)) rfl rfl (Nat.le_of_ble_eq_true rfl) dX9_init_16 (fun H locs hP hD hS => ?_)
  have hP : va_P (dC, dI) vwCl [(h0, .inr (9, [.int p0, .int p1, .ref q0]))] H := hP
  have hD : va_D A [(h0, .inr (9, [.int p0, .int p1, .ref q0]))] := hD
  have hP9 := hP.sub (ws' := [(h0, .inr (9, [.int p0, .int p1, .ref q0]))]) [0] rfl
  have hD9 := hD.sub (ws' := [(h0, .inr (9, [.int p0, .int p1, .ref q0]))]) [0] (by decide) rfl
  have hK9 := hK.sub (tys' := []) [] rfl
  exact W.vret hx hb hr (fun t ht hW => ⟨⟨(), rfl, trivial, ⟨by rw [ht]; exact hP9, va_K.moved hW.alike hK9, hD9⟩⟩, hS.F ht⟩) hS.2.2 dX9_init_19
def wo_o_c_Rules2 : List Cond := [.methodLink RX10 3 objectInit, .instanceMethod objectInit, .code objectInit ⟨#[0xb1]⟩ 1 none, .classLink RX10 9 RX9, .fieldLink RX10 11 "TypingPool$Rules" "told" "[LTypingPool$Rule;", .fieldLink RX10 17 "TypingPool$Rules" "count" "I", .arrayClass .int, .fieldLink RX10 21 "TypingPool$Rules" "letters" "[I", .fieldLink RX10 25 "TypingPool$Rules" "atFirst" "[LTypingPool$Rule;", .classLink RX10 28 RX8, .instantiable RX8 8, .initialized RX8, .instanceMethod yX8_init, .fieldLink RX10 31 "TypingPool$Rules" "reader" "LTypingPool$Reader;", .fieldLink RX10 35 "TypingPool$Rules" "stack" "[I", .methodLink RX10 38 yX10_textAtFirst, .static yX10_textAtFirst, .initialized RX10, .methodLink RX10 42 yJ0_toCharArray_70df3, .instanceMethod yJ0_toCharArray_70df3, .selects RJ0 yJ0_toCharArray_70df3 yJ0_toCharArray_70df3, .initialized RJ0, .methodLink RX10 48 yX10_lettersOf, .static yX10_lettersOf, .methodLink RX10 51 yX8_read, .instanceMethod yX8_read, .selects RX8 yX8_read yX8_read, .instantiable RX9 3, .initialized RX9, .methodLink RX10 55 yX8_codeRead, .instanceMethod yX8_codeRead, .selects RX8 yX8_codeRead yX8_codeRead, .instanceMethod yX9_init, .methodLink RX10 59 yX9_init]
def wm_o_c_Rules2 : List Cond := .code yX10_init cX10_init 3 none :: (wo_o_c_Rules2 ++ (wsX100 ++ (wsX80 ++ (wm_o_r_init ++ (wm_o_c_textAtFirst ++ (wm_j_toCharArray ++ (wm_o_c_lettersOf ++ (wm_o_r_read ++ (wsX90 ++ (wm_o_r_codeRead2 ++ (wm_o_c_Rule_init ++ ([] : List Cond))))))))))))
theorem gd_o_c_Rules2 : ∀ w ∈ wm_o_c_Rules2, goodWord w = true := gd_c rfl (gd_a (by decide) (gd_a gd_wsX100 (gd_a gd_wsX80 (gd_a gd_o_r_init (gd_a gd_o_c_textAtFirst (gd_a gd_j_toCharArray (gd_a gd_o_c_lettersOf (gd_a gd_o_r_read (gd_a gd_wsX90 (gd_a gd_o_r_codeRead2 (gd_a gd_o_c_Rule_init gd_nil)))))))))))
set_option maxRecDepth 20000 in
theorem im_o_c_Rules2 : ∀ w ∈ wm_o_c_Rules2, w ∈ lw_tbl := im_c (in_r [.code yX10_init cX10_init 3 none] [160] (by decide +kernel)) (in_app (in_r wo_o_c_Rules2 [161, 102, 103, 162, 397, 399, 155, 401, 404, 164, 165, 73, 167, 405, 406, 196, 197, 72, 203, 204, 205, 74, 248, 249, 255, 256, 257, 360, 80, 361, 362, 363, 380, 379] (by decide +kernel)) (in_app im_wsX100 (in_app im_wsX80 (in_app im_o_r_init (in_app im_o_c_textAtFirst (in_app im_j_toCharArray (in_app im_o_c_lettersOf (in_app im_o_r_read (in_app im_wsX90 (in_app im_o_r_codeRead2 (in_app im_o_c_Rule_init im_nil)))))))))))
set_option maxHeartbeats 4000000 in
set_option maxRecDepth 100000 in
theorem o_c_Rules2 (l : Launch) (dC : Nat → ClassId) (dI : Nat → Nat → Nat) (ad av : Nat → Nat) (sz : Nat) (h0 : Nat) : Met l yX10_init wm_o_c_Rules2 ({ frames := 14, cells := 19, slots := 564, locals := 500 }) (pr_ ad av (dC, dI) sz [.ref h0] [(h0, .inr (10, [.null, .int 0, .null, .null, .null, .null]))] []) (va_Qv (fun (_ : Unit) => True) (fun (_ : Unit) (t : State) => (∃ (r0 : Nat), ∃ (r1 : Nat), ∃ (r2 : Nat), ∃ (ro : Nat), ∃ (r4 : Nat), ∃ (e0 : Nat), ∃ (e2 : Nat), ∃ (k0 : ClassId), ∃ (k1 : ClassId), ∃ (k2 : ClassId), ∃ (k3 : ClassId), ∃ (k4 : ClassId), ∃ (k5 : ClassId), ∃ (gA : Nat → Option Nat), ∃ (fc : Nat → Int32), ∃ (fo : Nat → Int32), ∃ (i1 : Int32), ∃ (i3 : Int32), ∃ (i4 : Int32), ∃ (i5 : Int32), ∃ (i6 : Int32), ∃ (i7 : Int32), ∃ (t0 : Nat), ∃ (t1 : Nat), ∃ (t2 : Nat), ∃ (t3 : Nat), ∃ (d0 : Nat), ∃ (d1 : Nat), ∃ (d2 : Nat), ∃ (d3 : Nat), ∃ (kd0 : ClassId), ∃ (kd1 : ClassId), ∃ (kd2 : ClassId), ∃ (kd3 : ClassId), ∃ (n0 : Nat), ∃ (n1 : Nat), ∃ (n2 : Nat), ∃ (n3 : Nat), ∃ (fd0 : Nat → Int32), ∃ (fd1 : Nat → Int32), ∃ (fd2 : Nat → Int32), ∃ (fd3 : Nat → Int32), gA 0 = some t0 ∧ gA 1 = some t1 ∧ gA 2 = some t2 ∧ gA 3 = some t3 ∧ n0 ≤ 60 ∧ n1 ≤ 60 ∧ n2 ≤ 60 ∧ n3 ≤ 60 ∧ po_ (dC, dI) (va_A [(h0, .inr (10, [.null, .int 0, .null, .null, .null, .null]))] sz) [(h0, .inr (10, [.ref r0, .int 0, .ref r1, .ref r2, .ref ro, .ref r4])), (r0, .inl (k0, 20, .inr (.inr (.inr (.inr (fun _ => none)))))), (r1, .inl (k1, 8, .inl (fun _ => 0))), (r2, .inl (k2, 4, .inr (.inr (.inr (.inr gA))))), (ro, .inr (8, [.ref e0, .int i1, .ref e2, .int i3, .int i4, .int i5, .int i6, .int i7])), (e0, .inl (k3, 60, .inl fc)), (e2, .inl (k4, 60, .inl fo)), (r4, .inl (k5, 60, .inl (fun _ => 0))), (t0, .inr (9, [.int 0, .int 0, .ref d0])), (d0, .inl (kd0, n0, .inl fd0)), (t1, .inr (9, [.int 1, .int 0, .ref d1])), (d1, .inl (kd1, n1, .inl fd1)), (t2, .inr (9, [.int 2, .int 0, .ref d2])), (d2, .inl (kd2, n2, .inl fd2)), (t3, .inr (9, [.int 3, .int 0, .ref d3])), (d3, .inl (kd3, n3, .inl fd3))] [(k0, .object RX9), (k1, .int), (k2, .object RX9), (k3, .int), (k4, .char), (k5, .int), (kd0, .int), (kd1, .int), (kd2, .int), (kd3, .int)] t)) (va_A [(h0, .inr (10, [.null, .int 0, .null, .null, .null, .null]))] sz)) 19 564 (va_A [(h0, .inr (10, [.null, .int 0, .null, .null, .null, .null]))] sz) := by
  refine Met.ofW (cc := cX10_init) (maxL := 3) (ret := none) (by decide) rfl ?_
  intro p e s m args below meth c s₁ B hml hv
  obtain ⟨rfl, hsz, hP, hK, hD0, hM⟩ := hv
  have hx := B.exec
  have hb := B.bytes
  have hr := B.returns
  have hts := atoms_spec (ws := wm_o_c_Rules2) B.pre
  have hown : s.vm.findClass RX10 = some m.cls := findClass_of_methodNamed B.named
  have hlocks := B.notSynchronized
  have hin : meth.name = "<init>" := (name_of_methodNamed B.named B.method).1
  subst hsz
  have hD := hD0.self (sz := s.heap.size)
  generalize hAe : va_A [(h0, .inr (10, [.null, .int 0, .null, .null, .null, .null]))] s.heap.size = A at hD hM ⊢
  have hA : ∀ q : Nat, s.heap.size ≤ q → A q := fun q h => by rw [← hAe]; exact Or.inr h
  have hS : va_S A s.heap s.heap [] := va_S.rf
  have hP : va_P (dC, dI) vwCl [(h0, .inr (10, [.null, .int 0, .null, .null, .null, .null]))] s.heap := hP
  have hl := lv_entry ([.ref h0]) (n := 3) (Nat.le_of_ble_eq_true rfl)
  rw [lg_entry_eq]
  generalize (lg_sl ([.ref h0]) ++ List.replicate (3 - (lg_sl ([.ref h0])).length) Slot.unset).toArray = ls at hl ⊢
  have hl : lv_has ls 3 [(0, .ref h0)] := hl
  refine lv_aload_n hx hb dX10_init_0 rfl (lv_at hl 0 rfl) ?_
  refine W.objInit hx hb hown (hts (.methodLink RX10 3 objectInit) (List.mem_cons_of_mem _ (List.mem_append_left _ (List.mem_of_getElem? (i := 0) rfl)))) (hts (.instanceMethod objectInit) (List.mem_cons_of_mem _ (List.mem_append_left _ (List.mem_of_getElem? (i := 1) rfl)))) (hts (.code objectInit ⟨#[0xb1]⟩ 1 none) (List.mem_cons_of_mem _ (List.mem_append_left _ (List.mem_of_getElem? (i := 2) rfl)))) rfl (by rw [hml]; exact hl.1) rfl dX10_init_1 (Nat.le_of_ble_eq_true rfl) (Nat.le_of_ble_eq_true rfl) ?_
  refine W.eq (g2 := F0 m 4 ls []) rfl ?_
  refine lv_aload_n hx hb dX10_init_4 rfl (lv_at hl 0 rfl) ?_
  refine lv_bipush (v := 20) hx hb dX10_init_5 (by decide) ?_
  refine va_newq (C := RX9) hx hb hown (hts (.classLink RX10 9 RX9) (List.mem_cons_of_mem _ (List.mem_append_left _ (List.mem_of_getElem? (i := 3) rfl)))) hM.2.1.2.2.2.2 hK hP hD hS hA (N' := 20) (by decide) (by decide) (by decide) (Nat.le_of_ble_eq_true rfl) (Nat.le_of_ble_eq_true rfl) dX10_init_7 (fun q_13 cA_14 H hK hP hD hS => ?_)
  refine W.widen (k := 1) (n := 20) (Nat.le_of_ble_eq_true rfl) (by omega) ?_
  have hP : va_P (dC, dI) vwCl [(h0, .inr (10, [.null, .int 0, .null, .null, .null, .null])), (q_13, .inl (cA_14, 20, .inr (.inr (.inr (.inr (fun _ => none))))))] H := hP
  have hD : va_D A [(h0, .inr (10, [.null, .int 0, .null, .null, .null, .null])), (q_13, .inl (cA_14, 20, .inr (.inr (.inr (.inr (fun _ => none))))))] := hD
  have hK : va_K (dC, dI) vwCl [(cA_14, .object RX9)] s := hK
  refine va_putF (D := (dC, dI)) (ci := 10) (v := .ref q_13) (ty := .array (.object "TypingPool$Rule")) (C := RX10) (T := TX10) (N := 6) hx hb hts (fun _ hh => (List.mem_cons_of_mem _ (List.mem_append_right _ (List.mem_append_left _ hh)))) tyX10 tyX10_ok nmX10 hown hK hP hD hS 0 rfl rfl 0 (by decide) (hts (.fieldLink RX10 11 "TypingPool$Rules" "told" "[LTypingPool$Rule;") (List.mem_cons_of_mem _ (List.mem_append_left _ (List.mem_of_getElem? (i := 4) rfl)))) (fun _ h9 => h9) rfl hin rfl (tyX10_ok 0 (by decide)) rfl rfl (Nat.le_of_ble_eq_true rfl) dX10_init_10 (fun H locs hP hD hS => ?_)
  have hP : va_P (dC, dI) vwCl [(h0, .inr (10, [.ref q_13, .int 0, .null, .null, .null, .null])), (q_13, .inl (cA_14, 20, .inr (.inr (.inr (.inr (fun _ => none))))))] H := hP
  have hD : va_D A [(h0, .inr (10, [.ref q_13, .int 0, .null, .null, .null, .null])), (q_13, .inl (cA_14, 20, .inr (.inr (.inr (.inr (fun _ => none))))))] := hD
  refine lv_aload_n hx hb dX10_init_13 rfl (lv_at hl 0 rfl) ?_
  refine lv_iconst (v := 0) hx hb dX10_init_14 (by decide) ?_
  refine va_put (D := (dC, dI)) (ci := 10) (v := .int 0) (ty := .int) (C := RX10) (T := TX10) (N := 6) hx hb hts (fun _ hh => (List.mem_cons_of_mem _ (List.mem_append_right _ (List.mem_append_left _ hh)))) tyX10 tyX10_ok nmX10 hown hK hP hD hS 0 rfl rfl 1 (by decide) (hts (.fieldLink RX10 17 "TypingPool$Rules" "count" "I") (List.mem_cons_of_mem _ (List.mem_append_left _ (List.mem_of_getElem? (i := 5) rfl)))) (fun _ h9 => h9) rfl (tyX10_ok 1 (by decide)) rfl rfl (Nat.le_of_ble_eq_true rfl) dX10_init_15 (fun H locs hP hD hS => ?_)
  have hP : va_P (dC, dI) vwCl [(h0, .inr (10, [.ref q_13, .int 0, .null, .null, .null, .null])), (q_13, .inl (cA_14, 20, .inr (.inr (.inr (.inr (fun _ => none))))))] H := hP
  have hD : va_D A [(h0, .inr (10, [.ref q_13, .int 0, .null, .null, .null, .null])), (q_13, .inl (cA_14, 20, .inr (.inr (.inr (.inr (fun _ => none))))))] := hD
  refine lv_aload_n hx hb dX10_init_18 rfl (lv_at hl 0 rfl) ?_
  refine lv_bipush (v := 8) hx hb dX10_init_19 (by decide) ?_
  refine va_newa (atype := .int) hx hb (hts (.arrayClass .int) (List.mem_cons_of_mem _ (List.mem_append_left _ (List.mem_of_getElem? (i := 6) rfl)))) (ty := .int) rfl hK hP hD hS hA (N' := 8) (a0 := (8, .inl (fun _ => 0))) (fun _ => rfl) (by decide) (by decide) (by decide) (Nat.le_of_ble_eq_true rfl) (Nat.le_of_ble_eq_true rfl) dX10_init_21 (fun q_15 cA_16 H hK hP hD hS => ?_)
  refine W.widen (k := 2) (n := 28) (Nat.le_of_ble_eq_true rfl) (by omega) ?_
  have hP : va_P (dC, dI) vwCl [(h0, .inr (10, [.ref q_13, .int 0, .null, .null, .null, .null])), (q_13, .inl (cA_14, 20, .inr (.inr (.inr (.inr (fun _ => none)))))), (q_15, .inl (cA_16, 8, .inl (fun _ => 0)))] H := hP
  have hD : va_D A [(h0, .inr (10, [.ref q_13, .int 0, .null, .null, .null, .null])), (q_13, .inl (cA_14, 20, .inr (.inr (.inr (.inr (fun _ => none)))))), (q_15, .inl (cA_16, 8, .inl (fun _ => 0)))] := hD
  have hK : va_K (dC, dI) vwCl [(cA_14, .object RX9), (cA_16, .int)] s := hK
  refine va_putF (D := (dC, dI)) (ci := 10) (v := .ref q_15) (ty := .array .int) (C := RX10) (T := TX10) (N := 6) hx hb hts (fun _ hh => (List.mem_cons_of_mem _ (List.mem_append_right _ (List.mem_append_left _ hh)))) tyX10 tyX10_ok nmX10 hown hK hP hD hS 0 rfl rfl 2 (by decide) (hts (.fieldLink RX10 21 "TypingPool$Rules" "letters" "[I") (List.mem_cons_of_mem _ (List.mem_append_left _ (List.mem_of_getElem? (i := 7) rfl)))) (fun _ h9 => h9) rfl hin rfl (tyX10_ok 2 (by decide)) rfl rfl (Nat.le_of_ble_eq_true rfl) dX10_init_23 (fun H locs hP hD hS => ?_)
  have hP : va_P (dC, dI) vwCl [(h0, .inr (10, [.ref q_13, .int 0, .ref q_15, .null, .null, .null])), (q_13, .inl (cA_14, 20, .inr (.inr (.inr (.inr (fun _ => none)))))), (q_15, .inl (cA_16, 8, .inl (fun _ => 0)))] H := hP
  have hD : va_D A [(h0, .inr (10, [.ref q_13, .int 0, .ref q_15, .null, .null, .null])), (q_13, .inl (cA_14, 20, .inr (.inr (.inr (.inr (fun _ => none)))))), (q_15, .inl (cA_16, 8, .inl (fun _ => 0)))] := hD
  refine lv_aload_n hx hb dX10_init_26 rfl (lv_at hl 0 rfl) ?_
  refine lv_iconst (v := 4) hx hb dX10_init_27 (by decide) ?_
  refine va_newq (C := RX9) hx hb hown (hts (.classLink RX10 9 RX9) (List.mem_cons_of_mem _ (List.mem_append_left _ (List.mem_of_getElem? (i := 3) rfl)))) hM.2.1.2.2.2.2 hK hP hD hS hA (N' := 4) (by decide) (by decide) (by decide) (Nat.le_of_ble_eq_true rfl) (Nat.le_of_ble_eq_true rfl) dX10_init_28 (fun q_17 cA_18 H hK hP hD hS => ?_)
  refine W.widen (k := 3) (n := 32) (Nat.le_of_ble_eq_true rfl) (by omega) ?_
  have hP : va_P (dC, dI) vwCl [(h0, .inr (10, [.ref q_13, .int 0, .ref q_15, .null, .null, .null])), (q_13, .inl (cA_14, 20, .inr (.inr (.inr (.inr (fun _ => none)))))), (q_15, .inl (cA_16, 8, .inl (fun _ => 0))), (q_17, .inl (cA_18, 4, .inr (.inr (.inr (.inr (fun _ => none))))))] H := hP
  have hD : va_D A [(h0, .inr (10, [.ref q_13, .int 0, .ref q_15, .null, .null, .null])), (q_13, .inl (cA_14, 20, .inr (.inr (.inr (.inr (fun _ => none)))))), (q_15, .inl (cA_16, 8, .inl (fun _ => 0))), (q_17, .inl (cA_18, 4, .inr (.inr (.inr (.inr (fun _ => none))))))] := hD
  have hK : va_K (dC, dI) vwCl [(cA_14, .object RX9), (cA_16, .int), (cA_18, .object RX9)] s := hK
  refine va_putF (D := (dC, dI)) (ci := 10) (v := .ref q_17) (ty := .array (.object "TypingPool$Rule")) (C := RX10) (T := TX10) (N := 6) hx hb hts (fun _ hh => (List.mem_cons_of_mem _ (List.mem_append_right _ (List.mem_append_left _ hh)))) tyX10 tyX10_ok nmX10 hown hK hP hD hS 0 rfl rfl 3 (by decide) (hts (.fieldLink RX10 25 "TypingPool$Rules" "atFirst" "[LTypingPool$Rule;") (List.mem_cons_of_mem _ (List.mem_append_left _ (List.mem_of_getElem? (i := 8) rfl)))) (fun _ h9 => h9) rfl hin rfl (tyX10_ok 3 (by decide)) rfl rfl (Nat.le_of_ble_eq_true rfl) dX10_init_31 (fun H locs hP hD hS => ?_)
  have hP : va_P (dC, dI) vwCl [(h0, .inr (10, [.ref q_13, .int 0, .ref q_15, .ref q_17, .null, .null])), (q_13, .inl (cA_14, 20, .inr (.inr (.inr (.inr (fun _ => none)))))), (q_15, .inl (cA_16, 8, .inl (fun _ => 0))), (q_17, .inl (cA_18, 4, .inr (.inr (.inr (.inr (fun _ => none))))))] H := hP
  have hD : va_D A [(h0, .inr (10, [.ref q_13, .int 0, .ref q_15, .ref q_17, .null, .null])), (q_13, .inl (cA_14, 20, .inr (.inr (.inr (.inr (fun _ => none)))))), (q_15, .inl (cA_16, 8, .inl (fun _ => 0))), (q_17, .inl (cA_18, 4, .inr (.inr (.inr (.inr (fun _ => none))))))] := hD
  refine lv_aload_n hx hb dX10_init_34 rfl (lv_at hl 0 rfl) ?_
  refine va_new (ci := 8) (fs := [.null, .int 0, .null, .int 0, .int 0, .int 0, .int 0, .int 0]) (C := RX8) (T := TX8) (N := 8) hx hb hts (fun _ hh => (List.mem_cons_of_mem _ (List.mem_append_right _ (List.mem_append_right _ (List.mem_append_left _ hh))))) tyX8 tyX8_ok hown (hts (.classLink RX10 28 RX8) (List.mem_cons_of_mem _ (List.mem_append_left _ (List.mem_of_getElem? (i := 9) rfl)))) (hts (.instantiable RX8 8) (List.mem_cons_of_mem _ (List.mem_append_left _ (List.mem_of_getElem? (i := 10) rfl)))) (hts (.initialized RX8) (List.mem_cons_of_mem _ (List.mem_append_left _ (List.mem_of_getElem? (i := 11) rfl)))) hK hP hD hS hA rfl (fun j hj => by rcases (show j = 0 ∨ j = 1 ∨ j = 2 ∨ j = 3 ∨ j = 4 ∨ j = 5 ∨ j = 6 ∨ j = 7 by omega) with rfl | rfl | rfl | rfl | rfl | rfl | rfl | rfl <;> rfl) (Nat.le_of_ble_eq_true rfl) (Nat.le_of_ble_eq_true rfl) dX10_init_35 (fun q_19 H hP hD hS => ?_)
  refine W.widen (k := 4) (n := 40) (Nat.le_of_ble_eq_true rfl) (by omega) ?_
  have hP : va_P (dC, dI) vwCl [(h0, .inr (10, [.ref q_13, .int 0, .ref q_15, .ref q_17, .null, .null])), (q_13, .inl (cA_14, 20, .inr (.inr (.inr (.inr (fun _ => none)))))), (q_15, .inl (cA_16, 8, .inl (fun _ => 0))), (q_17, .inl (cA_18, 4, .inr (.inr (.inr (.inr (fun _ => none)))))), (q_19, .inr (8, [.null, .int 0, .null, .int 0, .int 0, .int 0, .int 0, .int 0]))] H := hP
  have hD : va_D A [(h0, .inr (10, [.ref q_13, .int 0, .ref q_15, .ref q_17, .null, .null])), (q_13, .inl (cA_14, 20, .inr (.inr (.inr (.inr (fun _ => none)))))), (q_15, .inl (cA_16, 8, .inl (fun _ => 0))), (q_17, .inl (cA_18, 4, .inr (.inr (.inr (.inr (fun _ => none)))))), (q_19, .inr (8, [.null, .int 0, .null, .int 0, .int 0, .int 0, .int 0, .int 0]))] := hD
  refine lv_dup hx hb dX10_init_38 rfl ?_
  have hPc := hP.sub (ws' := [(q_19, .inr (8, [.null, .int 0, .null, .int 0, .int 0, .int 0, .int 0, .int 0]))]) [4] rfl
  have hDc := hD.sub (ws' := [(q_19, .inr (8, [.null, .int 0, .null, .int 0, .int 0, .int 0, .int 0, .int 0]))]) [4] (by decide) rfl
  have hKc := hK.sub (tys' := []) [] rfl
  have hFc := va_free (wc := [(q_19, .inr (8, [.null, .int 0, .null, .int 0, .int 0, .int 0, .int 0, .int 0]))]) hD hS hA [4] rfl
  refine va_callv (va_runIN (As := []) (rest := [.ref q_19, .ref h0]) ⟨hx, hb, hml, hown, hts⟩ (o_r_init l dC dI ad av H.size q_19 ) ⟨va_cnB 0 hts (gi_0  (fun _ hh => (List.mem_cons_of_mem _ (List.mem_append_right _ (List.mem_append_right _ (List.mem_append_right _ (List.mem_append_left _ hh)))))) gd_o_r_init) rfl rfl rfl hM.1.2.2.2.2 (hts (.initialized RX8) (List.mem_cons_of_mem _ (List.mem_append_left _ (List.mem_of_getElem? (i := 11) rfl)))) (by decide +kernel) ⟨Nat.le_of_ble_eq_true rfl, Nat.le_of_ble_eq_true rfl⟩, rfl, (hts (.instanceMethod yX8_init) (List.mem_cons_of_mem _ (List.mem_append_left _ (List.mem_of_getElem? (i := 12) rfl))))⟩ ⟨pr_blind, pr_use hPc hKc hDc hFc hS hM⟩ rfl rfl hl.1 rfl (lv_room (Nat.le_of_ble_eq_true rfl)) dX10_init_39 ⟨Nat.le_of_ble_eq_true rfl, Nat.le_of_ble_eq_true rfl⟩) hS (fun q _ h => hFc q h) hFc (fun u t H locs ht hvm hw hB hz1 hk1 hS => ?_)
  refine W.widen (k := 6) (n := 160) (Nat.le_of_ble_eq_true rfl) (Nat.le_of_ble_eq_true rfl) ?_
  obtain ⟨q_21, q_22, k_23, k_24, hP1, hK1, hD1⟩ := hB
  rw [ht] at hP1
  have hK1 := va_K.moved hvm.symm hK1
  obtain ⟨hP, hD⟩ := va_join (wr := [(h0, .inr (10, [.ref q_13, .int 0, .ref q_15, .ref q_17, .null, .null])), (q_13, .inl (cA_14, 20, .inr (.inr (.inr (.inr (fun _ => none)))))), (q_15, .inl (cA_16, 8, .inl (fun _ => 0))), (q_17, .inl (cA_18, 4, .inr (.inr (.inr (.inr (fun _ => none))))))]) (w1 := [(q_19, .inr (8, [.ref q_21, .int 0, .ref q_22, .int 0, .int 0, .int 0, .int 0, .int 0])), (q_21, .inl (k_23, 60, .inl (fun _ => 0))), (q_22, .inl (k_24, 60, .inl (fun _ => 0)))]) hP hD [4] [0, 1, 2, 3] rfl rfl (by decide) (by decide) hk1 hFc hP1 hD1
  have hK := (hK.sub (tys' := [(cA_14, .object RX9), (cA_16, .int), (cA_18, .object RX9)]) [0, 1, 2] rfl).app hK1
  have hP : va_P (dC, dI) vwCl [(h0, .inr (10, [.ref q_13, .int 0, .ref q_15, .ref q_17, .null, .null])), (q_13, .inl (cA_14, 20, .inr (.inr (.inr (.inr (fun _ => none)))))), (q_15, .inl (cA_16, 8, .inl (fun _ => 0))), (q_17, .inl (cA_18, 4, .inr (.inr (.inr (.inr (fun _ => none)))))), (q_19, .inr (8, [.ref q_21, .int 0, .ref q_22, .int 0, .int 0, .int 0, .int 0, .int 0])), (q_21, .inl (k_23, 60, .inl (fun _ => 0))), (q_22, .inl (k_24, 60, .inl (fun _ => 0)))] H := hP
  have hD : va_D A [(h0, .inr (10, [.ref q_13, .int 0, .ref q_15, .ref q_17, .null, .null])), (q_13, .inl (cA_14, 20, .inr (.inr (.inr (.inr (fun _ => none)))))), (q_15, .inl (cA_16, 8, .inl (fun _ => 0))), (q_17, .inl (cA_18, 4, .inr (.inr (.inr (.inr (fun _ => none)))))), (q_19, .inr (8, [.ref q_21, .int 0, .ref q_22, .int 0, .int 0, .int 0, .int 0, .int 0])), (q_21, .inl (k_23, 60, .inl (fun _ => 0))), (q_22, .inl (k_24, 60, .inl (fun _ => 0)))] := hD
  have hK : va_K (dC, dI) vwCl [(cA_14, .object RX9), (cA_16, .int), (cA_18, .object RX9), (k_23, .int), (k_24, .char)] s := hK
  refine va_putF (D := (dC, dI)) (ci := 10) (v := .ref q_19) (ty := .object "TypingPool$Reader") (C := RX10) (T := TX10) (N := 6) hx hb hts (fun _ hh => (List.mem_cons_of_mem _ (List.mem_append_right _ (List.mem_append_left _ hh)))) tyX10 tyX10_ok nmX10 hown hK hP hD hS 0 rfl rfl 4 (by decide) (hts (.fieldLink RX10 31 "TypingPool$Rules" "reader" "LTypingPool$Reader;") (List.mem_cons_of_mem _ (List.mem_append_left _ (List.mem_of_getElem? (i := 13) rfl)))) (fun _ h9 => h9) rfl hin rfl (tyX10_ok 4 (by decide)) rfl rfl (Nat.le_of_ble_eq_true rfl) dX10_init_42 (fun H locs hP hD hS => ?_)
  have hP : va_P (dC, dI) vwCl [(h0, .inr (10, [.ref q_13, .int 0, .ref q_15, .ref q_17, .ref q_19, .null])), (q_13, .inl (cA_14, 20, .inr (.inr (.inr (.inr (fun _ => none)))))), (q_15, .inl (cA_16, 8, .inl (fun _ => 0))), (q_17, .inl (cA_18, 4, .inr (.inr (.inr (.inr (fun _ => none)))))), (q_19, .inr (8, [.ref q_21, .int 0, .ref q_22, .int 0, .int 0, .int 0, .int 0, .int 0])), (q_21, .inl (k_23, 60, .inl (fun _ => 0))), (q_22, .inl (k_24, 60, .inl (fun _ => 0)))] H := hP
  have hD : va_D A [(h0, .inr (10, [.ref q_13, .int 0, .ref q_15, .ref q_17, .ref q_19, .null])), (q_13, .inl (cA_14, 20, .inr (.inr (.inr (.inr (fun _ => none)))))), (q_15, .inl (cA_16, 8, .inl (fun _ => 0))), (q_17, .inl (cA_18, 4, .inr (.inr (.inr (.inr (fun _ => none)))))), (q_19, .inr (8, [.ref q_21, .int 0, .ref q_22, .int 0, .int 0, .int 0, .int 0, .int 0])), (q_21, .inl (k_23, 60, .inl (fun _ => 0))), (q_22, .inl (k_24, 60, .inl (fun _ => 0)))] := hD
  refine lv_aload_n hx hb dX10_init_45 rfl (lv_at hl 0 rfl) ?_
  refine lv_bipush (v := 60) hx hb dX10_init_46 (by decide) ?_
  refine va_newa (atype := .int) hx hb (hts (.arrayClass .int) (List.mem_cons_of_mem _ (List.mem_append_left _ (List.mem_of_getElem? (i := 6) rfl)))) (ty := .int) rfl hK hP hD hS hA (N' := 60) (a0 := (60, .inl (fun _ => 0))) (fun _ => rfl) (by decide) (by decide) (by decide) (Nat.le_of_ble_eq_true rfl) (Nat.le_of_ble_eq_true rfl) dX10_init_48 (fun q_26 cA_27 H hK hP hD hS => ?_)
  refine W.widen (k := 7) (n := 220) (Nat.le_of_ble_eq_true rfl) (by omega) ?_
  have hP : va_P (dC, dI) vwCl [(h0, .inr (10, [.ref q_13, .int 0, .ref q_15, .ref q_17, .ref q_19, .null])), (q_13, .inl (cA_14, 20, .inr (.inr (.inr (.inr (fun _ => none)))))), (q_15, .inl (cA_16, 8, .inl (fun _ => 0))), (q_17, .inl (cA_18, 4, .inr (.inr (.inr (.inr (fun _ => none)))))), (q_19, .inr (8, [.ref q_21, .int 0, .ref q_22, .int 0, .int 0, .int 0, .int 0, .int 0])), (q_21, .inl (k_23, 60, .inl (fun _ => 0))), (q_22, .inl (k_24, 60, .inl (fun _ => 0))), (q_26, .inl (cA_27, 60, .inl (fun _ => 0)))] H := hP
  have hD : va_D A [(h0, .inr (10, [.ref q_13, .int 0, .ref q_15, .ref q_17, .ref q_19, .null])), (q_13, .inl (cA_14, 20, .inr (.inr (.inr (.inr (fun _ => none)))))), (q_15, .inl (cA_16, 8, .inl (fun _ => 0))), (q_17, .inl (cA_18, 4, .inr (.inr (.inr (.inr (fun _ => none)))))), (q_19, .inr (8, [.ref q_21, .int 0, .ref q_22, .int 0, .int 0, .int 0, .int 0, .int 0])), (q_21, .inl (k_23, 60, .inl (fun _ => 0))), (q_22, .inl (k_24, 60, .inl (fun _ => 0))), (q_26, .inl (cA_27, 60, .inl (fun _ => 0)))] := hD
  have hK : va_K (dC, dI) vwCl [(cA_14, .object RX9), (cA_16, .int), (cA_18, .object RX9), (k_23, .int), (k_24, .char), (cA_27, .int)] s := hK
  refine va_putF (D := (dC, dI)) (ci := 10) (v := .ref q_26) (ty := .array .int) (C := RX10) (T := TX10) (N := 6) hx hb hts (fun _ hh => (List.mem_cons_of_mem _ (List.mem_append_right _ (List.mem_append_left _ hh)))) tyX10 tyX10_ok nmX10 hown hK hP hD hS 0 rfl rfl 5 (by decide) (hts (.fieldLink RX10 35 "TypingPool$Rules" "stack" "[I") (List.mem_cons_of_mem _ (List.mem_append_left _ (List.mem_of_getElem? (i := 14) rfl)))) (fun _ h9 => h9) rfl hin rfl (tyX10_ok 5 (by decide)) rfl rfl (Nat.le_of_ble_eq_true rfl) dX10_init_50 (fun H locs hP hD hS => ?_)
  have hP : va_P (dC, dI) vwCl [(h0, .inr (10, [.ref q_13, .int 0, .ref q_15, .ref q_17, .ref q_19, .ref q_26])), (q_13, .inl (cA_14, 20, .inr (.inr (.inr (.inr (fun _ => none)))))), (q_15, .inl (cA_16, 8, .inl (fun _ => 0))), (q_17, .inl (cA_18, 4, .inr (.inr (.inr (.inr (fun _ => none)))))), (q_19, .inr (8, [.ref q_21, .int 0, .ref q_22, .int 0, .int 0, .int 0, .int 0, .int 0])), (q_21, .inl (k_23, 60, .inl (fun _ => 0))), (q_22, .inl (k_24, 60, .inl (fun _ => 0))), (q_26, .inl (cA_27, 60, .inl (fun _ => 0)))] H := hP
  have hD : va_D A [(h0, .inr (10, [.ref q_13, .int 0, .ref q_15, .ref q_17, .ref q_19, .ref q_26])), (q_13, .inl (cA_14, 20, .inr (.inr (.inr (.inr (fun _ => none)))))), (q_15, .inl (cA_16, 8, .inl (fun _ => 0))), (q_17, .inl (cA_18, 4, .inr (.inr (.inr (.inr (fun _ => none)))))), (q_19, .inr (8, [.ref q_21, .int 0, .ref q_22, .int 0, .int 0, .int 0, .int 0, .int 0])), (q_21, .inl (k_23, 60, .inl (fun _ => 0))), (q_22, .inl (k_24, 60, .inl (fun _ => 0))), (q_26, .inl (cA_27, 60, .inl (fun _ => 0)))] := hD
  refine lv_iconst (v := 0) hx hb dX10_init_53 (by decide) ?_
  refine lv_istore_n (lv' := [(1, .int 0), (0, .ref h0)]) hx hb dX10_init_54 rfl hl (by decide) rfl (fun ls hl => ?_)
  refine lv_iload_n hx hb dX10_init_55 rfl (lv_at hl 0 rfl) ?_
  refine lv_iconst (v := 4) hx hb dX10_init_56 (by decide) ?_
  refine lv_icmp_ge (tgt := 111) hx hb dX10_init_57 (by decide) (fun c_28 => absurd c_28 (by decide)) (fun c_28 => ?_)
  refine lv_iload_n hx hb dX10_init_60 rfl (lv_at hl 0 rfl) ?_
  have hPc := hP.sub (ws' := []) [] rfl
  have hDc := hD.sub (ws' := []) [] (by decide) rfl
  have hKc := hK.sub (tys' := []) [] rfl
  have hFc := va_free (wc := []) hD hS hA [] rfl
  refine va_callr (va_runS (As := [.int 0]) (rest := []) ⟨hx, hb, hml, hown, hts⟩ (o_c_textAtFirst l dC dI ad av H.size 0 ) (va_cwS 1 hts (gi_3 (List.mem_cons_of_mem _ (List.mem_append_left _ (List.mem_of_getElem? (i := 15) rfl))) (List.mem_cons_of_mem _ (List.mem_append_left _ (List.mem_of_getElem? (i := 16) rfl))) (List.mem_cons_of_mem _ (List.mem_append_left _ (List.mem_of_getElem? (i := 17) rfl))) (fun _ hh => (List.mem_cons_of_mem _ (List.mem_append_right _ (List.mem_append_right _ (List.mem_append_right _ (List.mem_append_right _ (List.mem_append_left _ hh))))))) gd_o_c_textAtFirst) rfl rfl rfl (by decide +kernel) ⟨Nat.le_of_ble_eq_true rfl, Nat.le_of_ble_eq_true rfl⟩) ⟨pr_blind, pr_use hPc hKc hDc hFc hS hM⟩ rfl rfl hl.1 rfl (lv_room (Nat.le_of_ble_eq_true rfl)) dX10_init_61 ⟨Nat.le_of_ble_eq_true rfl, Nat.le_of_ble_eq_true rfl⟩) hS (fun q _ h => hFc q h) hFc (fun u r_29 t H locs ht hvm hw hB hz1 hk1 hS => ?_)
  refine W.widen (k := 7) (n := 220) (Nat.le_of_ble_eq_true rfl) (Nat.le_of_ble_eq_true rfl) ?_
  obtain ⟨i_30, hre_31, hf_32, hP1, hK1, hD1⟩ := hB
  rw [hre_31]
  rw [ht] at hP1
  have hK1 := va_K.moved hvm.symm hK1
  obtain ⟨hP, hD⟩ := va_join (wr := [(h0, .inr (10, [.ref q_13, .int 0, .ref q_15, .ref q_17, .ref q_19, .ref q_26])), (q_13, .inl (cA_14, 20, .inr (.inr (.inr (.inr (fun _ => none)))))), (q_15, .inl (cA_16, 8, .inl (fun _ => 0))), (q_17, .inl (cA_18, 4, .inr (.inr (.inr (.inr (fun _ => none)))))), (q_19, .inr (8, [.ref q_21, .int 0, .ref q_22, .int 0, .int 0, .int 0, .int 0, .int 0])), (q_21, .inl (k_23, 60, .inl (fun _ => 0))), (q_22, .inl (k_24, 60, .inl (fun _ => 0))), (q_26, .inl (cA_27, 60, .inl (fun _ => 0)))]) (w1 := []) hP hD [] [0, 1, 2, 3, 4, 5, 6, 7] rfl rfl (by decide) (by decide) hk1 hFc hP1 hD1
  have hK := (hK.sub (tys' := [(cA_14, .object RX9), (cA_16, .int), (cA_18, .object RX9), (k_23, .int), (k_24, .char), (cA_27, .int)]) [0, 1, 2, 3, 4, 5] rfl).app hK1
  have hP : va_P (dC, dI) vwCl [(h0, .inr (10, [.ref q_13, .int 0, .ref q_15, .ref q_17, .ref q_19, .ref q_26])), (q_13, .inl (cA_14, 20, .inr (.inr (.inr (.inr (fun _ => none)))))), (q_15, .inl (cA_16, 8, .inl (fun _ => 0))), (q_17, .inl (cA_18, 4, .inr (.inr (.inr (.inr (fun _ => none)))))), (q_19, .inr (8, [.ref q_21, .int 0, .ref q_22, .int 0, .int 0, .int 0, .int 0, .int 0])), (q_21, .inl (k_23, 60, .inl (fun _ => 0))), (q_22, .inl (k_24, 60, .inl (fun _ => 0))), (q_26, .inl (cA_27, 60, .inl (fun _ => 0)))] H := hP
  have hD : va_D A [(h0, .inr (10, [.ref q_13, .int 0, .ref q_15, .ref q_17, .ref q_19, .ref q_26])), (q_13, .inl (cA_14, 20, .inr (.inr (.inr (.inr (fun _ => none)))))), (q_15, .inl (cA_16, 8, .inl (fun _ => 0))), (q_17, .inl (cA_18, 4, .inr (.inr (.inr (.inr (fun _ => none)))))), (q_19, .inr (8, [.ref q_21, .int 0, .ref q_22, .int 0, .int 0, .int 0, .int 0, .int 0])), (q_21, .inl (k_23, 60, .inl (fun _ => 0))), (q_22, .inl (k_24, 60, .inl (fun _ => 0))), (q_26, .inl (cA_27, 60, .inl (fun _ => 0)))] := hD
  have hK : va_K (dC, dI) vwCl [(cA_14, .object RX9), (cA_16, .int), (cA_18, .object RX9), (k_23, .int), (k_24, .char), (cA_27, .int)] s := hK
  have hPc := hP.sub (ws' := []) [] rfl
  have hDc := hD.sub (ws' := []) [] (by decide) rfl
  have hKc := hK.sub (tys' := []) [] rfl
  have hFc := va_free (wc := []) hD hS hA [] rfl
  refine va_callr (va_runV (As := []) (rest := []) ⟨hx, hb, hml, hown, hts⟩ (j_toCharArray l dC dI ad av H.size i_30 (by omega)) (cwV 0 hts (gi_4 (List.mem_cons_of_mem _ (List.mem_append_left _ (List.mem_of_getElem? (i := 18) rfl))) (List.mem_cons_of_mem _ (List.mem_append_left _ (List.mem_of_getElem? (i := 19) rfl))) (List.mem_cons_of_mem _ (List.mem_append_left _ (List.mem_of_getElem? (i := 20) rfl))) (List.mem_cons_of_mem _ (List.mem_append_left _ (List.mem_of_getElem? (i := 21) rfl))) (fun _ hh => (List.mem_cons_of_mem _ (List.mem_append_right _ (List.mem_append_right _ (List.mem_append_right _ (List.mem_append_right _ (List.mem_append_right _ (List.mem_append_left _ hh)))))))) gd_j_toCharArray) rfl rfl rfl (by decide +kernel) ⟨Nat.le_of_ble_eq_true rfl, Nat.le_of_ble_eq_true rfl⟩) ⟨pr_blind, (st_recv (st_at hM i_30 (by omega)) hS), pr_use hPc hKc hDc hFc hS hM⟩ rfl rfl hl.1 rfl (lv_room (Nat.le_of_ble_eq_true rfl)) dX10_init_64 ⟨Nat.le_of_ble_eq_true rfl, Nat.le_of_ble_eq_true rfl⟩) hS (fun q _ h => hFc q h) hFc (fun u r_33 t H locs ht hvm hw hB hz1 hk1 hS => ?_)
  refine W.widen (k := 8) (n := 243) (Nat.le_of_ble_eq_true rfl) (Nat.le_of_ble_eq_true rfl) ?_
  obtain ⟨q_34, k_35, f_36, hre_37, hP1, hK1, hD1⟩ := hB
  rw [hre_37]
  rw [ht] at hP1
  have hK1 := va_K.moved hvm.symm hK1
  obtain ⟨hP, hD⟩ := va_join (wr := [(h0, .inr (10, [.ref q_13, .int 0, .ref q_15, .ref q_17, .ref q_19, .ref q_26])), (q_13, .inl (cA_14, 20, .inr (.inr (.inr (.inr (fun _ => none)))))), (q_15, .inl (cA_16, 8, .inl (fun _ => 0))), (q_17, .inl (cA_18, 4, .inr (.inr (.inr (.inr (fun _ => none)))))), (q_19, .inr (8, [.ref q_21, .int 0, .ref q_22, .int 0, .int 0, .int 0, .int 0, .int 0])), (q_21, .inl (k_23, 60, .inl (fun _ => 0))), (q_22, .inl (k_24, 60, .inl (fun _ => 0))), (q_26, .inl (cA_27, 60, .inl (fun _ => 0)))]) (w1 := [(q_34, .inl (k_35, sL i_30, .inl f_36))]) hP hD [] [0, 1, 2, 3, 4, 5, 6, 7] rfl rfl (by decide) (by decide) hk1 hFc hP1 hD1
  have hK := (hK.sub (tys' := [(cA_14, .object RX9), (cA_16, .int), (cA_18, .object RX9), (k_23, .int), (k_24, .char), (cA_27, .int)]) [0, 1, 2, 3, 4, 5] rfl).app hK1
  have hP : va_P (dC, dI) vwCl [(h0, .inr (10, [.ref q_13, .int 0, .ref q_15, .ref q_17, .ref q_19, .ref q_26])), (q_13, .inl (cA_14, 20, .inr (.inr (.inr (.inr (fun _ => none)))))), (q_15, .inl (cA_16, 8, .inl (fun _ => 0))), (q_17, .inl (cA_18, 4, .inr (.inr (.inr (.inr (fun _ => none)))))), (q_19, .inr (8, [.ref q_21, .int 0, .ref q_22, .int 0, .int 0, .int 0, .int 0, .int 0])), (q_21, .inl (k_23, 60, .inl (fun _ => 0))), (q_22, .inl (k_24, 60, .inl (fun _ => 0))), (q_26, .inl (cA_27, 60, .inl (fun _ => 0))), (q_34, .inl (k_35, sL i_30, .inl f_36))] H := hP
  have hD : va_D A [(h0, .inr (10, [.ref q_13, .int 0, .ref q_15, .ref q_17, .ref q_19, .ref q_26])), (q_13, .inl (cA_14, 20, .inr (.inr (.inr (.inr (fun _ => none)))))), (q_15, .inl (cA_16, 8, .inl (fun _ => 0))), (q_17, .inl (cA_18, 4, .inr (.inr (.inr (.inr (fun _ => none)))))), (q_19, .inr (8, [.ref q_21, .int 0, .ref q_22, .int 0, .int 0, .int 0, .int 0, .int 0])), (q_21, .inl (k_23, 60, .inl (fun _ => 0))), (q_22, .inl (k_24, 60, .inl (fun _ => 0))), (q_26, .inl (cA_27, 60, .inl (fun _ => 0))), (q_34, .inl (k_35, sL i_30, .inl f_36))] := hD
  have hK : va_K (dC, dI) vwCl [(cA_14, .object RX9), (cA_16, .int), (cA_18, .object RX9), (k_23, .int), (k_24, .char), (cA_27, .int), (k_35, .char)] s := hK
  refine lv_astore_n (lv' := [(2, .ref q_34), (1, .int 0), (0, .ref h0)]) hx hb dX10_init_67 rfl hl (by decide) rfl (fun ls hl => ?_)
  refine lv_aload_n hx hb dX10_init_68 rfl (lv_at hl 2 rfl) ?_
  refine va_get (D := (dC, dI)) (ci := 10) (v := .ref q_19) (C := RX10) (T := TX10) (N := 6) hx hb hts (fun _ hh => (List.mem_cons_of_mem _ (List.mem_append_right _ (List.mem_append_left _ hh)))) hown hK hP 0 rfl rfl 4 (by decide) (hts (.fieldLink RX10 31 "TypingPool$Rules" "reader" "LTypingPool$Reader;") (List.mem_cons_of_mem _ (List.mem_append_left _ (List.mem_of_getElem? (i := 13) rfl)))) (fun _ h9 => h9) rfl dX10_init_69 ?_
  refine lv_aload_n hx hb dX10_init_72 rfl (lv_at hl 0 rfl) ?_
  refine lv_aload_n hx hb dX10_init_73 rfl (lv_at hl 0 rfl) ?_
  refine va_alen (v := nI (sL i_30)) hx hb hK hP 8 6 rfl rfl rfl dX10_init_74 ?_
  refine lv_iload_n hx hb dX10_init_75 rfl (lv_at hl 1 rfl) ?_
  have hPc := hP.sub (ws' := []) [] rfl
  have hDc := hD.sub (ws' := []) [] (by decide) rfl
  have hKc := hK.sub (tys' := []) [] rfl
  have hFc := va_free (wc := []) hD hS hA [] rfl
  refine va_callr (va_runS (As := [.int 0]) (rest := [.int (nI (sL i_30)), .ref q_34, .ref q_19]) ⟨hx, hb, hml, hown, hts⟩ (o_c_lettersOf l dC dI ad av H.size 0 ) (va_cwS 1 hts (gi_3 (List.mem_cons_of_mem _ (List.mem_append_left _ (List.mem_of_getElem? (i := 22) rfl))) (List.mem_cons_of_mem _ (List.mem_append_left _ (List.mem_of_getElem? (i := 23) rfl))) (List.mem_cons_of_mem _ (List.mem_append_left _ (List.mem_of_getElem? (i := 17) rfl))) (fun _ hh => (List.mem_cons_of_mem _ (List.mem_append_right _ (List.mem_append_right _ (List.mem_append_right _ (List.mem_append_right _ (List.mem_append_right _ (List.mem_append_right _ (List.mem_append_left _ hh))))))))) gd_o_c_lettersOf) rfl rfl rfl (by decide +kernel) ⟨Nat.le_of_ble_eq_true rfl, Nat.le_of_ble_eq_true rfl⟩) ⟨pr_blind, pr_use hPc hKc hDc hFc hS hM⟩ rfl rfl hl.1 rfl (lv_room (Nat.le_of_ble_eq_true rfl)) dX10_init_76 ⟨Nat.le_of_ble_eq_true rfl, Nat.le_of_ble_eq_true rfl⟩) hS (fun q _ h => hFc q h) hFc (fun u r_38 t H locs ht hvm hw hB hz1 hk1 hS => ?_)
  refine W.widen (k := 8) (n := 243) (Nat.le_of_ble_eq_true rfl) (Nat.le_of_ble_eq_true rfl) ?_
  obtain ⟨i_39, hre_40, hf_41, hf_42, hP1, hK1, hD1⟩ := hB
  rw [hre_40]
  rw [ht] at hP1
  have hK1 := va_K.moved hvm.symm hK1
  obtain ⟨hP, hD⟩ := va_join (wr := [(h0, .inr (10, [.ref q_13, .int 0, .ref q_15, .ref q_17, .ref q_19, .ref q_26])), (q_13, .inl (cA_14, 20, .inr (.inr (.inr (.inr (fun _ => none)))))), (q_15, .inl (cA_16, 8, .inl (fun _ => 0))), (q_17, .inl (cA_18, 4, .inr (.inr (.inr (.inr (fun _ => none)))))), (q_19, .inr (8, [.ref q_21, .int 0, .ref q_22, .int 0, .int 0, .int 0, .int 0, .int 0])), (q_21, .inl (k_23, 60, .inl (fun _ => 0))), (q_22, .inl (k_24, 60, .inl (fun _ => 0))), (q_26, .inl (cA_27, 60, .inl (fun _ => 0))), (q_34, .inl (k_35, sL i_30, .inl f_36))]) (w1 := []) hP hD [] [0, 1, 2, 3, 4, 5, 6, 7, 8] rfl rfl (by decide) (by decide) hk1 hFc hP1 hD1
  have hK := (hK.sub (tys' := [(cA_14, .object RX9), (cA_16, .int), (cA_18, .object RX9), (k_23, .int), (k_24, .char), (cA_27, .int), (k_35, .char)]) [0, 1, 2, 3, 4, 5, 6] rfl).app hK1
  have hP : va_P (dC, dI) vwCl [(h0, .inr (10, [.ref q_13, .int 0, .ref q_15, .ref q_17, .ref q_19, .ref q_26])), (q_13, .inl (cA_14, 20, .inr (.inr (.inr (.inr (fun _ => none)))))), (q_15, .inl (cA_16, 8, .inl (fun _ => 0))), (q_17, .inl (cA_18, 4, .inr (.inr (.inr (.inr (fun _ => none)))))), (q_19, .inr (8, [.ref q_21, .int 0, .ref q_22, .int 0, .int 0, .int 0, .int 0, .int 0])), (q_21, .inl (k_23, 60, .inl (fun _ => 0))), (q_22, .inl (k_24, 60, .inl (fun _ => 0))), (q_26, .inl (cA_27, 60, .inl (fun _ => 0))), (q_34, .inl (k_35, sL i_30, .inl f_36))] H := hP
  have hD : va_D A [(h0, .inr (10, [.ref q_13, .int 0, .ref q_15, .ref q_17, .ref q_19, .ref q_26])), (q_13, .inl (cA_14, 20, .inr (.inr (.inr (.inr (fun _ => none)))))), (q_15, .inl (cA_16, 8, .inl (fun _ => 0))), (q_17, .inl (cA_18, 4, .inr (.inr (.inr (.inr (fun _ => none)))))), (q_19, .inr (8, [.ref q_21, .int 0, .ref q_22, .int 0, .int 0, .int 0, .int 0, .int 0])), (q_21, .inl (k_23, 60, .inl (fun _ => 0))), (q_22, .inl (k_24, 60, .inl (fun _ => 0))), (q_26, .inl (cA_27, 60, .inl (fun _ => 0))), (q_34, .inl (k_35, sL i_30, .inl f_36))] := hD
  have hK : va_K (dC, dI) vwCl [(cA_14, .object RX9), (cA_16, .int), (cA_18, .object RX9), (k_23, .int), (k_24, .char), (cA_27, .int), (k_35, .char)] s := hK
  have hPc := hP.sub (ws' := [(q_19, .inr (8, [.ref q_21, .int 0, .ref q_22, .int 0, .int 0, .int 0, .int 0, .int 0])), (q_21, .inl (k_23, 60, .inl (fun _ => 0))), (q_22, .inl (k_24, 60, .inl (fun _ => 0))), (q_34, .inl (k_35, (sL i_30), .inl f_36))]) [4, 5, 6, 8] rfl
  have hDc := hD.sub (ws' := [(q_19, .inr (8, [.ref q_21, .int 0, .ref q_22, .int 0, .int 0, .int 0, .int 0, .int 0])), (q_21, .inl (k_23, 60, .inl (fun _ => 0))), (q_22, .inl (k_24, 60, .inl (fun _ => 0))), (q_34, .inl (k_35, (sL i_30), .inl f_36))]) [4, 5, 6, 8] (by decide) rfl
  have hKc := hK.sub (tys' := [(k_23, .int), (k_24, .char), (k_35, .char)]) [3, 4, 6] rfl
  have hFc := va_free (wc := [(q_19, .inr (8, [.ref q_21, .int 0, .ref q_22, .int 0, .int 0, .int 0, .int 0, .int 0])), (q_21, .inl (k_23, 60, .inl (fun _ => 0))), (q_22, .inl (k_24, 60, .inl (fun _ => 0))), (q_34, .inl (k_35, (sL i_30), .inl f_36))]) hD hS hA [4, 5, 6, 8] rfl
  refine va_calli (va_runV (As := [.ref q_34, .int (nI (sL i_30)), .ref (ad i_39)]) (rest := []) ⟨hx, hb, hml, hown, hts⟩ (o_r_read l dC dI ad av H.size q_19 q_21 q_22 q_34 (sL i_30) k_23 k_24 k_35 (fun _ => 0) (fun _ => 0) f_36 0 0 0 0 0 0 i_39 (sL_le i_30) (by omega)) (cwV 3 hts (gi_4 (List.mem_cons_of_mem _ (List.mem_append_left _ (List.mem_of_getElem? (i := 24) rfl))) (List.mem_cons_of_mem _ (List.mem_append_left _ (List.mem_of_getElem? (i := 25) rfl))) (List.mem_cons_of_mem _ (List.mem_append_left _ (List.mem_of_getElem? (i := 26) rfl))) (List.mem_cons_of_mem _ (List.mem_append_left _ (List.mem_of_getElem? (i := 11) rfl))) (fun _ hh => (List.mem_cons_of_mem _ (List.mem_append_right _ (List.mem_append_right _ (List.mem_append_right _ (List.mem_append_right _ (List.mem_append_right _ (List.mem_append_right _ (List.mem_append_right _ (List.mem_append_left _ hh)))))))))) gd_o_r_read) rfl rfl rfl (by decide +kernel) ⟨Nat.le_of_ble_eq_true rfl, Nat.le_of_ble_eq_true rfl⟩) ⟨pr_blind, va_recv hKc hPc (ci := 8) (q0 := 0) rfl rfl, pr_use hPc hKc hDc hFc hS hM⟩ rfl rfl hl.1 rfl (lv_room (Nat.le_of_ble_eq_true rfl)) dX10_init_79 ⟨Nat.le_of_ble_eq_true rfl, Nat.le_of_ble_eq_true rfl⟩) hS (fun q _ h => hFc q h) hFc (fun r_43 u t H locs ht hvm hw hB hz1 hk1 hS => ?_)
  refine W.widen (k := 8) (n := 243) (Nat.le_of_ble_eq_true rfl) (Nat.le_of_ble_eq_true rfl) ?_
  subst hw
  obtain ⟨r_44, cl_45, ol_46, j_47, j_48, j_49, j_50, f_51, g_52, hre_53, hf_54, hf_55, hP1, hK1, hD1⟩ := hB
  refine lq_top (v := r_44) hre_53 ?_
  rw [ht] at hP1
  have hK1 := va_K.moved hvm.symm hK1
  obtain ⟨hP, hD⟩ := va_join (wr := [(h0, .inr (10, [.ref q_13, .int 0, .ref q_15, .ref q_17, .ref q_19, .ref q_26])), (q_13, .inl (cA_14, 20, .inr (.inr (.inr (.inr (fun _ => none)))))), (q_15, .inl (cA_16, 8, .inl (fun _ => 0))), (q_17, .inl (cA_18, 4, .inr (.inr (.inr (.inr (fun _ => none)))))), (q_26, .inl (cA_27, 60, .inl (fun _ => 0)))]) (w1 := [(q_19, .inr (8, [.ref q_21, .int (nI cl_45), .ref q_22, .int (nI ol_46), .int j_47, .int j_48, .int j_49, .int j_50])), (q_21, .inl (k_23, 60, .inl f_51)), (q_22, .inl (k_24, 60, .inl g_52))]) hP hD [4, 5, 6, 8] [0, 1, 2, 3, 7] rfl rfl (by decide) (by decide) hk1 hFc hP1 hD1
  have hK := (hK.sub (tys' := [(cA_14, .object RX9), (cA_16, .int), (cA_18, .object RX9), (cA_27, .int)]) [0, 1, 2, 5] rfl).app hK1
  have hP : va_P (dC, dI) vwCl [(h0, .inr (10, [.ref q_13, .int 0, .ref q_15, .ref q_17, .ref q_19, .ref q_26])), (q_13, .inl (cA_14, 20, .inr (.inr (.inr (.inr (fun _ => none)))))), (q_15, .inl (cA_16, 8, .inl (fun _ => 0))), (q_17, .inl (cA_18, 4, .inr (.inr (.inr (.inr (fun _ => none)))))), (q_26, .inl (cA_27, 60, .inl (fun _ => 0))), (q_19, .inr (8, [.ref q_21, .int (nI cl_45), .ref q_22, .int (nI ol_46), .int j_47, .int j_48, .int j_49, .int j_50])), (q_21, .inl (k_23, 60, .inl f_51)), (q_22, .inl (k_24, 60, .inl g_52))] H := hP
  have hD : va_D A [(h0, .inr (10, [.ref q_13, .int 0, .ref q_15, .ref q_17, .ref q_19, .ref q_26])), (q_13, .inl (cA_14, 20, .inr (.inr (.inr (.inr (fun _ => none)))))), (q_15, .inl (cA_16, 8, .inl (fun _ => 0))), (q_17, .inl (cA_18, 4, .inr (.inr (.inr (.inr (fun _ => none)))))), (q_26, .inl (cA_27, 60, .inl (fun _ => 0))), (q_19, .inr (8, [.ref q_21, .int (nI cl_45), .ref q_22, .int (nI ol_46), .int j_47, .int j_48, .int j_49, .int j_50])), (q_21, .inl (k_23, 60, .inl f_51)), (q_22, .inl (k_24, 60, .inl g_52))] := hD
  have hK : va_K (dC, dI) vwCl [(cA_14, .object RX9), (cA_16, .int), (cA_18, .object RX9), (cA_27, .int), (k_23, .int), (k_24, .char)] s := hK
  refine lv_pop hx hb dX10_init_82 rfl ?_
  refine lv_aload_n hx hb dX10_init_83 rfl (lv_at hl 2 rfl) ?_
  refine va_get (D := (dC, dI)) (ci := 10) (v := .ref q_17) (C := RX10) (T := TX10) (N := 6) hx hb hts (fun _ hh => (List.mem_cons_of_mem _ (List.mem_append_right _ (List.mem_append_left _ hh)))) hown hK hP 0 rfl rfl 3 (by decide) (hts (.fieldLink RX10 25 "TypingPool$Rules" "atFirst" "[LTypingPool$Rule;") (List.mem_cons_of_mem _ (List.mem_append_left _ (List.mem_of_getElem? (i := 8) rfl)))) (fun _ h9 => h9) rfl dX10_init_84 ?_
  refine lv_iload_n hx hb dX10_init_87 rfl (lv_at hl 1 rfl) ?_
  refine va_new (ci := 9) (fs := [.int 0, .int 0, .null]) (C := RX9) (T := TX9) (N := 3) hx hb hts (fun _ hh => (List.mem_cons_of_mem _ (List.mem_append_right _ (List.mem_append_right _ (List.mem_append_right _ (List.mem_append_right _ (List.mem_append_right _ (List.mem_append_right _ (List.mem_append_right _ (List.mem_append_right _ (List.mem_append_left _ hh))))))))))) tyX9 tyX9_ok hown (hts (.classLink RX10 9 RX9) (List.mem_cons_of_mem _ (List.mem_append_left _ (List.mem_of_getElem? (i := 3) rfl)))) (hts (.instantiable RX9 3) (List.mem_cons_of_mem _ (List.mem_append_left _ (List.mem_of_getElem? (i := 27) rfl)))) (hts (.initialized RX9) (List.mem_cons_of_mem _ (List.mem_append_left _ (List.mem_of_getElem? (i := 28) rfl)))) hK hP hD hS hA rfl (fun j hj => by rcases (show j = 0 ∨ j = 1 ∨ j = 2 by omega) with rfl | rfl | rfl <;> rfl) (Nat.le_of_ble_eq_true rfl) (Nat.le_of_ble_eq_true rfl) dX10_init_88 (fun q_56 H hP hD hS => ?_)
  refine W.widen (k := 9) (n := 246) (Nat.le_of_ble_eq_true rfl) (by omega) ?_
  have hP : va_P (dC, dI) vwCl [(h0, .inr (10, [.ref q_13, .int 0, .ref q_15, .ref q_17, .ref q_19, .ref q_26])), (q_13, .inl (cA_14, 20, .inr (.inr (.inr (.inr (fun _ => none)))))), (q_15, .inl (cA_16, 8, .inl (fun _ => 0))), (q_17, .inl (cA_18, 4, .inr (.inr (.inr (.inr (fun _ => none)))))), (q_26, .inl (cA_27, 60, .inl (fun _ => 0))), (q_19, .inr (8, [.ref q_21, .int (nI cl_45), .ref q_22, .int (nI ol_46), .int j_47, .int j_48, .int j_49, .int j_50])), (q_21, .inl (k_23, 60, .inl f_51)), (q_22, .inl (k_24, 60, .inl g_52)), (q_56, .inr (9, [.int 0, .int 0, .null]))] H := hP
  have hD : va_D A [(h0, .inr (10, [.ref q_13, .int 0, .ref q_15, .ref q_17, .ref q_19, .ref q_26])), (q_13, .inl (cA_14, 20, .inr (.inr (.inr (.inr (fun _ => none)))))), (q_15, .inl (cA_16, 8, .inl (fun _ => 0))), (q_17, .inl (cA_18, 4, .inr (.inr (.inr (.inr (fun _ => none)))))), (q_26, .inl (cA_27, 60, .inl (fun _ => 0))), (q_19, .inr (8, [.ref q_21, .int (nI cl_45), .ref q_22, .int (nI ol_46), .int j_47, .int j_48, .int j_49, .int j_50])), (q_21, .inl (k_23, 60, .inl f_51)), (q_22, .inl (k_24, 60, .inl g_52)), (q_56, .inr (9, [.int 0, .int 0, .null]))] := hD
  refine lv_dup hx hb dX10_init_91 rfl ?_
  refine lv_iload_n hx hb dX10_init_92 rfl (lv_at hl 1 rfl) ?_
  refine lv_iconst (v := 0) hx hb dX10_init_93 (by decide) ?_
  refine lv_aload_n hx hb dX10_init_94 rfl (lv_at hl 2 rfl) ?_
  refine va_get (D := (dC, dI)) (ci := 10) (v := .ref q_19) (C := RX10) (T := TX10) (N := 6) hx hb hts (fun _ hh => (List.mem_cons_of_mem _ (List.mem_append_right _ (List.mem_append_left _ hh)))) hown hK hP 0 rfl rfl 4 (by decide) (hts (.fieldLink RX10 31 "TypingPool$Rules" "reader" "LTypingPool$Reader;") (List.mem_cons_of_mem _ (List.mem_append_left _ (List.mem_of_getElem? (i := 13) rfl)))) (fun _ h9 => h9) rfl dX10_init_95 ?_
  have hPc := hP.sub (ws' := [(q_19, .inr (8, [.ref q_21, .int (nI cl_45), .ref q_22, .int (nI ol_46), .int j_47, .int j_48, .int j_49, .int j_50])), (q_21, .inl (k_23, 60, .inl f_51)), (q_22, .inl (k_24, 60, .inl g_52))]) [5, 6, 7] rfl
  have hDc := hD.sub (ws' := [(q_19, .inr (8, [.ref q_21, .int (nI cl_45), .ref q_22, .int (nI ol_46), .int j_47, .int j_48, .int j_49, .int j_50])), (q_21, .inl (k_23, 60, .inl f_51)), (q_22, .inl (k_24, 60, .inl g_52))]) [5, 6, 7] (by decide) rfl
  have hKc := hK.sub (tys' := [(k_23, .int), (k_24, .char)]) [4, 5] rfl
  have hFc := va_free (wc := [(q_19, .inr (8, [.ref q_21, .int (nI cl_45), .ref q_22, .int (nI ol_46), .int j_47, .int j_48, .int j_49, .int j_50])), (q_21, .inl (k_23, 60, .inl f_51)), (q_22, .inl (k_24, 60, .inl g_52))]) hD hS hA [5, 6, 7] rfl
  refine va_callr (va_runV (As := []) (rest := [.int 0, .int 0, .ref q_56, .ref q_56, .int 0, .ref q_17]) ⟨hx, hb, hml, hown, hts⟩ (o_r_codeRead2 l dC dI ad av H.size q_19 q_21 q_22 cl_45 ol_46 k_23 k_24 f_51 g_52 j_47 j_48 j_49 j_50 hf_54 hf_55) (cwV 0 hts (gi_4 (List.mem_cons_of_mem _ (List.mem_append_left _ (List.mem_of_getElem? (i := 29) rfl))) (List.mem_cons_of_mem _ (List.mem_append_left _ (List.mem_of_getElem? (i := 30) rfl))) (List.mem_cons_of_mem _ (List.mem_append_left _ (List.mem_of_getElem? (i := 31) rfl))) (List.mem_cons_of_mem _ (List.mem_append_left _ (List.mem_of_getElem? (i := 11) rfl))) (fun _ hh => (List.mem_cons_of_mem _ (List.mem_append_right _ (List.mem_append_right _ (List.mem_append_right _ (List.mem_append_right _ (List.mem_append_right _ (List.mem_append_right _ (List.mem_append_right _ (List.mem_append_right _ (List.mem_append_right _ (List.mem_append_left _ hh)))))))))))) gd_o_r_codeRead2) rfl rfl rfl (by decide +kernel) ⟨Nat.le_of_ble_eq_true rfl, Nat.le_of_ble_eq_true rfl⟩) ⟨pr_blind, va_recv hKc hPc (ci := 8) (q0 := 0) rfl rfl, pr_use hPc hKc hDc hFc hS hM⟩ rfl rfl hl.1 rfl (lv_room (Nat.le_of_ble_eq_true rfl)) dX10_init_98 ⟨Nat.le_of_ble_eq_true rfl, Nat.le_of_ble_eq_true rfl⟩) hS (fun q _ h => hFc q h) hFc (fun u r_57 t H locs ht hvm hw hB hz1 hk1 hS => ?_)
  refine W.widen (k := 10) (n := 306) (Nat.le_of_ble_eq_true rfl) (Nat.le_of_ble_eq_true rfl) ?_
  obtain ⟨q_58, nn_59, k_60, f_61, hre_62, hf_63, hP1, hK1, hD1⟩ := hB
  rw [hre_62]
  rw [ht] at hP1
  have hK1 := va_K.moved hvm.symm hK1
  obtain ⟨hP, hD⟩ := va_join (wr := [(h0, .inr (10, [.ref q_13, .int 0, .ref q_15, .ref q_17, .ref q_19, .ref q_26])), (q_13, .inl (cA_14, 20, .inr (.inr (.inr (.inr (fun _ => none)))))), (q_15, .inl (cA_16, 8, .inl (fun _ => 0))), (q_17, .inl (cA_18, 4, .inr (.inr (.inr (.inr (fun _ => none)))))), (q_26, .inl (cA_27, 60, .inl (fun _ => 0))), (q_56, .inr (9, [.int 0, .int 0, .null]))]) (w1 := [(q_19, .inr (8, [.ref q_21, .int (nI cl_45), .ref q_22, .int (nI ol_46), .int j_47, .int j_48, .int j_49, .int j_50])), (q_21, .inl (k_23, 60, .inl f_51)), (q_22, .inl (k_24, 60, .inl g_52)), (q_58, .inl (k_60, nn_59, .inl f_61))]) hP hD [5, 6, 7] [0, 1, 2, 3, 4, 8] rfl rfl (by decide) (by decide) hk1 hFc hP1 hD1
  have hK := (hK.sub (tys' := [(cA_14, .object RX9), (cA_16, .int), (cA_18, .object RX9), (cA_27, .int)]) [0, 1, 2, 3] rfl).app hK1
  have hP : va_P (dC, dI) vwCl [(h0, .inr (10, [.ref q_13, .int 0, .ref q_15, .ref q_17, .ref q_19, .ref q_26])), (q_13, .inl (cA_14, 20, .inr (.inr (.inr (.inr (fun _ => none)))))), (q_15, .inl (cA_16, 8, .inl (fun _ => 0))), (q_17, .inl (cA_18, 4, .inr (.inr (.inr (.inr (fun _ => none)))))), (q_26, .inl (cA_27, 60, .inl (fun _ => 0))), (q_56, .inr (9, [.int 0, .int 0, .null])), (q_19, .inr (8, [.ref q_21, .int (nI cl_45), .ref q_22, .int (nI ol_46), .int j_47, .int j_48, .int j_49, .int j_50])), (q_21, .inl (k_23, 60, .inl f_51)), (q_22, .inl (k_24, 60, .inl g_52)), (q_58, .inl (k_60, nn_59, .inl f_61))] H := hP
  have hD : va_D A [(h0, .inr (10, [.ref q_13, .int 0, .ref q_15, .ref q_17, .ref q_19, .ref q_26])), (q_13, .inl (cA_14, 20, .inr (.inr (.inr (.inr (fun _ => none)))))), (q_15, .inl (cA_16, 8, .inl (fun _ => 0))), (q_17, .inl (cA_18, 4, .inr (.inr (.inr (.inr (fun _ => none)))))), (q_26, .inl (cA_27, 60, .inl (fun _ => 0))), (q_56, .inr (9, [.int 0, .int 0, .null])), (q_19, .inr (8, [.ref q_21, .int (nI cl_45), .ref q_22, .int (nI ol_46), .int j_47, .int j_48, .int j_49, .int j_50])), (q_21, .inl (k_23, 60, .inl f_51)), (q_22, .inl (k_24, 60, .inl g_52)), (q_58, .inl (k_60, nn_59, .inl f_61))] := hD
  have hK : va_K (dC, dI) vwCl [(cA_14, .object RX9), (cA_16, .int), (cA_18, .object RX9), (cA_27, .int), (k_23, .int), (k_24, .char), (k_60, .int)] s := hK
  have hPc := hP.sub (ws' := [(q_56, .inr (9, [.int 0, .int 0, .null]))]) [5] rfl
  have hDc := hD.sub (ws' := [(q_56, .inr (9, [.int 0, .int 0, .null]))]) [5] (by decide) rfl
  have hKc := hK.sub (tys' := []) [] rfl
  have hFc := va_free (wc := [(q_56, .inr (9, [.int 0, .int 0, .null]))]) hD hS hA [5] rfl
  refine va_callv (va_runI (As := [.int 0, .int 0, .ref q_58]) (rest := [.ref q_56, .int 0, .ref q_17]) ⟨hx, hb, hml, hown, hts⟩ (o_c_Rule_init l dC dI ad av H.size q_56 q_58 0 0 ) (cwI 3 hts (gi_0  (fun _ hh => (List.mem_cons_of_mem _ (List.mem_append_right _ (List.mem_append_right _ (List.mem_append_right _ (List.mem_append_right _ (List.mem_append_right _ (List.mem_append_right _ (List.mem_append_right _ (List.mem_append_right _ (List.mem_append_right _ (List.mem_append_right _ (List.mem_append_left _ hh))))))))))))) gd_o_c_Rule_init) rfl rfl rfl (hts (.initialized RX9) (List.mem_cons_of_mem _ (List.mem_append_left _ (List.mem_of_getElem? (i := 28) rfl)))) (hts (.methodLink RX10 59 yX9_init) (List.mem_cons_of_mem _ (List.mem_append_left _ (List.mem_of_getElem? (i := 33) rfl)))) (hts (.instanceMethod yX9_init) (List.mem_cons_of_mem _ (List.mem_append_left _ (List.mem_of_getElem? (i := 32) rfl)))) rfl (by decide +kernel) ⟨Nat.le_of_ble_eq_true rfl, Nat.le_of_ble_eq_true rfl⟩) ⟨pr_blind, pr_use hPc hKc hDc hFc hS hM⟩ rfl rfl hl.1 rfl (lv_room (Nat.le_of_ble_eq_true rfl)) dX10_init_101 ⟨Nat.le_of_ble_eq_true rfl, Nat.le_of_ble_eq_true rfl⟩) hS (fun q _ h => hFc q h) hFc (fun u t H locs ht hvm hw hB hz1 hk1 hS => ?_)
  refine W.widen (k := 10) (n := 306) (Nat.le_of_ble_eq_true rfl) (Nat.le_of_ble_eq_true rfl) ?_
  obtain ⟨hP1, hK1, hD1⟩ := hB
  rw [ht] at hP1
  have hK1 := va_K.moved hvm.symm hK1
  obtain ⟨hP, hD⟩ := va_join (wr := [(h0, .inr (10, [.ref q_13, .int 0, .ref q_15, .ref q_17, .ref q_19, .ref q_26])), (q_13, .inl (cA_14, 20, .inr (.inr (.inr (.inr (fun _ => none)))))), (q_15, .inl (cA_16, 8, .inl (fun _ => 0))), (q_17, .inl (cA_18, 4, .inr (.inr (.inr (.inr (fun _ => none)))))), (q_26, .inl (cA_27, 60, .inl (fun _ => 0))), (q_19, .inr (8, [.ref q_21, .int (nI cl_45), .ref q_22, .int (nI ol_46), .int j_47, .int j_48, .int j_49, .int j_50])), (q_21, .inl (k_23, 60, .inl f_51)), (q_22, .inl (k_24, 60, .inl g_52)), (q_58, .inl (k_60, nn_59, .inl f_61))]) (w1 := [(q_56, .inr (9, [.int 0, .int 0, .ref q_58]))]) hP hD [5] [0, 1, 2, 3, 4, 6, 7, 8, 9] rfl rfl (by decide) (by decide) hk1 hFc hP1 hD1
  have hK := (hK.sub (tys' := [(cA_14, .object RX9), (cA_16, .int), (cA_18, .object RX9), (cA_27, .int), (k_23, .int), (k_24, .char), (k_60, .int)]) [0, 1, 2, 3, 4, 5, 6] rfl).app hK1
  have hP : va_P (dC, dI) vwCl [(h0, .inr (10, [.ref q_13, .int 0, .ref q_15, .ref q_17, .ref q_19, .ref q_26])), (q_13, .inl (cA_14, 20, .inr (.inr (.inr (.inr (fun _ => none)))))), (q_15, .inl (cA_16, 8, .inl (fun _ => 0))), (q_17, .inl (cA_18, 4, .inr (.inr (.inr (.inr (fun _ => none)))))), (q_26, .inl (cA_27, 60, .inl (fun _ => 0))), (q_19, .inr (8, [.ref q_21, .int (nI cl_45), .ref q_22, .int (nI ol_46), .int j_47, .int j_48, .int j_49, .int j_50])), (q_21, .inl (k_23, 60, .inl f_51)), (q_22, .inl (k_24, 60, .inl g_52)), (q_58, .inl (k_60, nn_59, .inl f_61)), (q_56, .inr (9, [.int 0, .int 0, .ref q_58]))] H := hP
  have hD : va_D A [(h0, .inr (10, [.ref q_13, .int 0, .ref q_15, .ref q_17, .ref q_19, .ref q_26])), (q_13, .inl (cA_14, 20, .inr (.inr (.inr (.inr (fun _ => none)))))), (q_15, .inl (cA_16, 8, .inl (fun _ => 0))), (q_17, .inl (cA_18, 4, .inr (.inr (.inr (.inr (fun _ => none)))))), (q_26, .inl (cA_27, 60, .inl (fun _ => 0))), (q_19, .inr (8, [.ref q_21, .int (nI cl_45), .ref q_22, .int (nI ol_46), .int j_47, .int j_48, .int j_49, .int j_50])), (q_21, .inl (k_23, 60, .inl f_51)), (q_22, .inl (k_24, 60, .inl g_52)), (q_58, .inl (k_60, nn_59, .inl f_61)), (q_56, .inr (9, [.int 0, .int 0, .ref q_58]))] := hD
  have hK : va_K (dC, dI) vwCl [(cA_14, .object RX9), (cA_16, .int), (cA_18, .object RX9), (cA_27, .int), (k_23, .int), (k_24, .char), (k_60, .int)] s := hK
  refine va_astq hx hb hK hP hD hS 3 2 9 9 rfl rfl rfl rfl (by unfold vp_in; decide) dX10_init_104 (fun H locs hP hD hS => ?_)
  obtain ⟨g_66, eg_66⟩ : ∃ y : Nat → Option Nat, y = va_up (fun _ => none) (0 : Int32).toNatClampNeg (some q_56) := ⟨_, rfl⟩
  have hP : va_P (dC, dI) vwCl [(h0, .inr (10, [.ref q_13, .int 0, .ref q_15, .ref q_17, .ref q_19, .ref q_26])), (q_13, .inl (cA_14, 20, .inr (.inr (.inr (.inr (fun _ => none)))))), (q_15, .inl (cA_16, 8, .inl (fun _ => 0))), (q_17, .inl (cA_18, 4, .inr (.inr (.inr (.inr g_66))))), (q_26, .inl (cA_27, 60, .inl (fun _ => 0))), (q_19, .inr (8, [.ref q_21, .int (nI cl_45), .ref q_22, .int (nI ol_46), .int j_47, .int j_48, .int j_49, .int j_50])), (q_21, .inl (k_23, 60, .inl f_51)), (q_22, .inl (k_24, 60, .inl g_52)), (q_58, .inl (k_60, nn_59, .inl f_61)), (q_56, .inr (9, [.int 0, .int 0, .ref q_58]))] H := by rw [eg_66]; exact hP
  have hD : va_D A [(h0, .inr (10, [.ref q_13, .int 0, .ref q_15, .ref q_17, .ref q_19, .ref q_26])), (q_13, .inl (cA_14, 20, .inr (.inr (.inr (.inr (fun _ => none)))))), (q_15, .inl (cA_16, 8, .inl (fun _ => 0))), (q_17, .inl (cA_18, 4, .inr (.inr (.inr (.inr g_66))))), (q_26, .inl (cA_27, 60, .inl (fun _ => 0))), (q_19, .inr (8, [.ref q_21, .int (nI cl_45), .ref q_22, .int (nI ol_46), .int j_47, .int j_48, .int j_49, .int j_50])), (q_21, .inl (k_23, 60, .inl f_51)), (q_22, .inl (k_24, 60, .inl g_52)), (q_58, .inl (k_60, nn_59, .inl f_61)), (q_56, .inr (9, [.int 0, .int 0, .ref q_58]))] := by rw [eg_66]; exact hD
  have hga_67 : g_66 0 = some q_56 := by rw [eg_66]; exact if_pos (by decide)
  refine lv_iinc (v := 1) (lv' := [(1, .int 1), (2, .ref q_34), (0, .ref h0)]) hx hb dX10_init_105 hl (k := 1) rfl (by decide) (by decide) rfl (fun ls hl => ?_)
  refine lv_goto (tgt := 55) hx hb dX10_init_108 (by decide) ?_
  refine lv_iload_n hx hb dX10_init_55 rfl (lv_at hl 0 rfl) ?_
  refine lv_iconst (v := 4) hx hb dX10_init_56 (by decide) ?_
  refine lv_icmp_ge (tgt := 111) hx hb dX10_init_57 (by decide) (fun c_68 => absurd c_68 (by decide)) (fun c_68 => ?_)
  refine lv_iload_n hx hb dX10_init_60 rfl (lv_at hl 0 rfl) ?_
  have hPc := hP.sub (ws' := []) [] rfl
  have hDc := hD.sub (ws' := []) [] (by decide) rfl
  have hKc := hK.sub (tys' := []) [] rfl
  have hFc := va_free (wc := []) hD hS hA [] rfl
  refine va_callr (va_runS (As := [.int 1]) (rest := []) ⟨hx, hb, hml, hown, hts⟩ (o_c_textAtFirst l dC dI ad av H.size 1 ) (va_cwS 1 hts (gi_3 (List.mem_cons_of_mem _ (List.mem_append_left _ (List.mem_of_getElem? (i := 15) rfl))) (List.mem_cons_of_mem _ (List.mem_append_left _ (List.mem_of_getElem? (i := 16) rfl))) (List.mem_cons_of_mem _ (List.mem_append_left _ (List.mem_of_getElem? (i := 17) rfl))) (fun _ hh => (List.mem_cons_of_mem _ (List.mem_append_right _ (List.mem_append_right _ (List.mem_append_right _ (List.mem_append_right _ (List.mem_append_left _ hh))))))) gd_o_c_textAtFirst) rfl rfl rfl (by decide +kernel) ⟨Nat.le_of_ble_eq_true rfl, Nat.le_of_ble_eq_true rfl⟩) ⟨pr_blind, pr_use hPc hKc hDc hFc hS hM⟩ rfl rfl hl.1 rfl (lv_room (Nat.le_of_ble_eq_true rfl)) dX10_init_61 ⟨Nat.le_of_ble_eq_true rfl, Nat.le_of_ble_eq_true rfl⟩) hS (fun q _ h => hFc q h) hFc (fun u r_69 t H locs ht hvm hw hB hz1 hk1 hS => ?_)
  refine W.widen (k := 10) (n := 306) (Nat.le_of_ble_eq_true rfl) (Nat.le_of_ble_eq_true rfl) ?_
  obtain ⟨i_70, hre_71, hf_72, hP1, hK1, hD1⟩ := hB
  rw [hre_71]
  rw [ht] at hP1
  have hK1 := va_K.moved hvm.symm hK1
  obtain ⟨hP, hD⟩ := va_join (wr := [(h0, .inr (10, [.ref q_13, .int 0, .ref q_15, .ref q_17, .ref q_19, .ref q_26])), (q_13, .inl (cA_14, 20, .inr (.inr (.inr (.inr (fun _ => none)))))), (q_15, .inl (cA_16, 8, .inl (fun _ => 0))), (q_17, .inl (cA_18, 4, .inr (.inr (.inr (.inr g_66))))), (q_26, .inl (cA_27, 60, .inl (fun _ => 0))), (q_19, .inr (8, [.ref q_21, .int (nI cl_45), .ref q_22, .int (nI ol_46), .int j_47, .int j_48, .int j_49, .int j_50])), (q_21, .inl (k_23, 60, .inl f_51)), (q_22, .inl (k_24, 60, .inl g_52)), (q_58, .inl (k_60, nn_59, .inl f_61)), (q_56, .inr (9, [.int 0, .int 0, .ref q_58]))]) (w1 := []) hP hD [] [0, 1, 2, 3, 4, 5, 6, 7, 8, 9] rfl rfl (by decide) (by decide) hk1 hFc hP1 hD1
  have hK := (hK.sub (tys' := [(cA_14, .object RX9), (cA_16, .int), (cA_18, .object RX9), (cA_27, .int), (k_23, .int), (k_24, .char), (k_60, .int)]) [0, 1, 2, 3, 4, 5, 6] rfl).app hK1
  have hP : va_P (dC, dI) vwCl [(h0, .inr (10, [.ref q_13, .int 0, .ref q_15, .ref q_17, .ref q_19, .ref q_26])), (q_13, .inl (cA_14, 20, .inr (.inr (.inr (.inr (fun _ => none)))))), (q_15, .inl (cA_16, 8, .inl (fun _ => 0))), (q_17, .inl (cA_18, 4, .inr (.inr (.inr (.inr g_66))))), (q_26, .inl (cA_27, 60, .inl (fun _ => 0))), (q_19, .inr (8, [.ref q_21, .int (nI cl_45), .ref q_22, .int (nI ol_46), .int j_47, .int j_48, .int j_49, .int j_50])), (q_21, .inl (k_23, 60, .inl f_51)), (q_22, .inl (k_24, 60, .inl g_52)), (q_58, .inl (k_60, nn_59, .inl f_61)), (q_56, .inr (9, [.int 0, .int 0, .ref q_58]))] H := hP
  have hD : va_D A [(h0, .inr (10, [.ref q_13, .int 0, .ref q_15, .ref q_17, .ref q_19, .ref q_26])), (q_13, .inl (cA_14, 20, .inr (.inr (.inr (.inr (fun _ => none)))))), (q_15, .inl (cA_16, 8, .inl (fun _ => 0))), (q_17, .inl (cA_18, 4, .inr (.inr (.inr (.inr g_66))))), (q_26, .inl (cA_27, 60, .inl (fun _ => 0))), (q_19, .inr (8, [.ref q_21, .int (nI cl_45), .ref q_22, .int (nI ol_46), .int j_47, .int j_48, .int j_49, .int j_50])), (q_21, .inl (k_23, 60, .inl f_51)), (q_22, .inl (k_24, 60, .inl g_52)), (q_58, .inl (k_60, nn_59, .inl f_61)), (q_56, .inr (9, [.int 0, .int 0, .ref q_58]))] := hD
  have hK : va_K (dC, dI) vwCl [(cA_14, .object RX9), (cA_16, .int), (cA_18, .object RX9), (cA_27, .int), (k_23, .int), (k_24, .char), (k_60, .int)] s := hK
  have hPc := hP.sub (ws' := []) [] rfl
  have hDc := hD.sub (ws' := []) [] (by decide) rfl
  have hKc := hK.sub (tys' := []) [] rfl
  have hFc := va_free (wc := []) hD hS hA [] rfl
  refine va_callr (va_runV (As := []) (rest := []) ⟨hx, hb, hml, hown, hts⟩ (j_toCharArray l dC dI ad av H.size i_70 (by omega)) (cwV 0 hts (gi_4 (List.mem_cons_of_mem _ (List.mem_append_left _ (List.mem_of_getElem? (i := 18) rfl))) (List.mem_cons_of_mem _ (List.mem_append_left _ (List.mem_of_getElem? (i := 19) rfl))) (List.mem_cons_of_mem _ (List.mem_append_left _ (List.mem_of_getElem? (i := 20) rfl))) (List.mem_cons_of_mem _ (List.mem_append_left _ (List.mem_of_getElem? (i := 21) rfl))) (fun _ hh => (List.mem_cons_of_mem _ (List.mem_append_right _ (List.mem_append_right _ (List.mem_append_right _ (List.mem_append_right _ (List.mem_append_right _ (List.mem_append_left _ hh)))))))) gd_j_toCharArray) rfl rfl rfl (by decide +kernel) ⟨Nat.le_of_ble_eq_true rfl, Nat.le_of_ble_eq_true rfl⟩) ⟨pr_blind, (st_recv (st_at hM i_70 (by omega)) hS), pr_use hPc hKc hDc hFc hS hM⟩ rfl rfl hl.1 rfl (lv_room (Nat.le_of_ble_eq_true rfl)) dX10_init_64 ⟨Nat.le_of_ble_eq_true rfl, Nat.le_of_ble_eq_true rfl⟩) hS (fun q _ h => hFc q h) hFc (fun u r_73 t H locs ht hvm hw hB hz1 hk1 hS => ?_)
  refine W.widen (k := 11) (n := 329) (Nat.le_of_ble_eq_true rfl) (Nat.le_of_ble_eq_true rfl) ?_
  obtain ⟨q_74, k_75, f_76, hre_77, hP1, hK1, hD1⟩ := hB
  rw [hre_77]
  rw [ht] at hP1
  have hK1 := va_K.moved hvm.symm hK1
  obtain ⟨hP, hD⟩ := va_join (wr := [(h0, .inr (10, [.ref q_13, .int 0, .ref q_15, .ref q_17, .ref q_19, .ref q_26])), (q_13, .inl (cA_14, 20, .inr (.inr (.inr (.inr (fun _ => none)))))), (q_15, .inl (cA_16, 8, .inl (fun _ => 0))), (q_17, .inl (cA_18, 4, .inr (.inr (.inr (.inr g_66))))), (q_26, .inl (cA_27, 60, .inl (fun _ => 0))), (q_19, .inr (8, [.ref q_21, .int (nI cl_45), .ref q_22, .int (nI ol_46), .int j_47, .int j_48, .int j_49, .int j_50])), (q_21, .inl (k_23, 60, .inl f_51)), (q_22, .inl (k_24, 60, .inl g_52)), (q_58, .inl (k_60, nn_59, .inl f_61)), (q_56, .inr (9, [.int 0, .int 0, .ref q_58]))]) (w1 := [(q_74, .inl (k_75, sL i_70, .inl f_76))]) hP hD [] [0, 1, 2, 3, 4, 5, 6, 7, 8, 9] rfl rfl (by decide) (by decide) hk1 hFc hP1 hD1
  have hK := (hK.sub (tys' := [(cA_14, .object RX9), (cA_16, .int), (cA_18, .object RX9), (cA_27, .int), (k_23, .int), (k_24, .char), (k_60, .int)]) [0, 1, 2, 3, 4, 5, 6] rfl).app hK1
  have hP : va_P (dC, dI) vwCl [(h0, .inr (10, [.ref q_13, .int 0, .ref q_15, .ref q_17, .ref q_19, .ref q_26])), (q_13, .inl (cA_14, 20, .inr (.inr (.inr (.inr (fun _ => none)))))), (q_15, .inl (cA_16, 8, .inl (fun _ => 0))), (q_17, .inl (cA_18, 4, .inr (.inr (.inr (.inr g_66))))), (q_26, .inl (cA_27, 60, .inl (fun _ => 0))), (q_19, .inr (8, [.ref q_21, .int (nI cl_45), .ref q_22, .int (nI ol_46), .int j_47, .int j_48, .int j_49, .int j_50])), (q_21, .inl (k_23, 60, .inl f_51)), (q_22, .inl (k_24, 60, .inl g_52)), (q_58, .inl (k_60, nn_59, .inl f_61)), (q_56, .inr (9, [.int 0, .int 0, .ref q_58])), (q_74, .inl (k_75, sL i_70, .inl f_76))] H := hP
  have hD : va_D A [(h0, .inr (10, [.ref q_13, .int 0, .ref q_15, .ref q_17, .ref q_19, .ref q_26])), (q_13, .inl (cA_14, 20, .inr (.inr (.inr (.inr (fun _ => none)))))), (q_15, .inl (cA_16, 8, .inl (fun _ => 0))), (q_17, .inl (cA_18, 4, .inr (.inr (.inr (.inr g_66))))), (q_26, .inl (cA_27, 60, .inl (fun _ => 0))), (q_19, .inr (8, [.ref q_21, .int (nI cl_45), .ref q_22, .int (nI ol_46), .int j_47, .int j_48, .int j_49, .int j_50])), (q_21, .inl (k_23, 60, .inl f_51)), (q_22, .inl (k_24, 60, .inl g_52)), (q_58, .inl (k_60, nn_59, .inl f_61)), (q_56, .inr (9, [.int 0, .int 0, .ref q_58])), (q_74, .inl (k_75, sL i_70, .inl f_76))] := hD
  have hK : va_K (dC, dI) vwCl [(cA_14, .object RX9), (cA_16, .int), (cA_18, .object RX9), (cA_27, .int), (k_23, .int), (k_24, .char), (k_60, .int), (k_75, .char)] s := hK
  refine lv_astore_n (lv' := [(2, .ref q_74), (1, .int 1), (0, .ref h0)]) hx hb dX10_init_67 rfl hl (by decide) rfl (fun ls hl => ?_)
  refine lv_aload_n hx hb dX10_init_68 rfl (lv_at hl 2 rfl) ?_
  refine va_get (D := (dC, dI)) (ci := 10) (v := .ref q_19) (C := RX10) (T := TX10) (N := 6) hx hb hts (fun _ hh => (List.mem_cons_of_mem _ (List.mem_append_right _ (List.mem_append_left _ hh)))) hown hK hP 0 rfl rfl 4 (by decide) (hts (.fieldLink RX10 31 "TypingPool$Rules" "reader" "LTypingPool$Reader;") (List.mem_cons_of_mem _ (List.mem_append_left _ (List.mem_of_getElem? (i := 13) rfl)))) (fun _ h9 => h9) rfl dX10_init_69 ?_
  refine lv_aload_n hx hb dX10_init_72 rfl (lv_at hl 0 rfl) ?_
  refine lv_aload_n hx hb dX10_init_73 rfl (lv_at hl 0 rfl) ?_
  refine va_alen (v := nI (sL i_70)) hx hb hK hP 10 7 rfl rfl rfl dX10_init_74 ?_
  refine lv_iload_n hx hb dX10_init_75 rfl (lv_at hl 1 rfl) ?_
  have hPc := hP.sub (ws' := []) [] rfl
  have hDc := hD.sub (ws' := []) [] (by decide) rfl
  have hKc := hK.sub (tys' := []) [] rfl
  have hFc := va_free (wc := []) hD hS hA [] rfl
  refine va_callr (va_runS (As := [.int 1]) (rest := [.int (nI (sL i_70)), .ref q_74, .ref q_19]) ⟨hx, hb, hml, hown, hts⟩ (o_c_lettersOf l dC dI ad av H.size 1 ) (va_cwS 1 hts (gi_3 (List.mem_cons_of_mem _ (List.mem_append_left _ (List.mem_of_getElem? (i := 22) rfl))) (List.mem_cons_of_mem _ (List.mem_append_left _ (List.mem_of_getElem? (i := 23) rfl))) (List.mem_cons_of_mem _ (List.mem_append_left _ (List.mem_of_getElem? (i := 17) rfl))) (fun _ hh => (List.mem_cons_of_mem _ (List.mem_append_right _ (List.mem_append_right _ (List.mem_append_right _ (List.mem_append_right _ (List.mem_append_right _ (List.mem_append_right _ (List.mem_append_left _ hh))))))))) gd_o_c_lettersOf) rfl rfl rfl (by decide +kernel) ⟨Nat.le_of_ble_eq_true rfl, Nat.le_of_ble_eq_true rfl⟩) ⟨pr_blind, pr_use hPc hKc hDc hFc hS hM⟩ rfl rfl hl.1 rfl (lv_room (Nat.le_of_ble_eq_true rfl)) dX10_init_76 ⟨Nat.le_of_ble_eq_true rfl, Nat.le_of_ble_eq_true rfl⟩) hS (fun q _ h => hFc q h) hFc (fun u r_78 t H locs ht hvm hw hB hz1 hk1 hS => ?_)
  refine W.widen (k := 11) (n := 329) (Nat.le_of_ble_eq_true rfl) (Nat.le_of_ble_eq_true rfl) ?_
  obtain ⟨i_79, hre_80, hf_81, hf_82, hP1, hK1, hD1⟩ := hB
  rw [hre_80]
  rw [ht] at hP1
  have hK1 := va_K.moved hvm.symm hK1
  obtain ⟨hP, hD⟩ := va_join (wr := [(h0, .inr (10, [.ref q_13, .int 0, .ref q_15, .ref q_17, .ref q_19, .ref q_26])), (q_13, .inl (cA_14, 20, .inr (.inr (.inr (.inr (fun _ => none)))))), (q_15, .inl (cA_16, 8, .inl (fun _ => 0))), (q_17, .inl (cA_18, 4, .inr (.inr (.inr (.inr g_66))))), (q_26, .inl (cA_27, 60, .inl (fun _ => 0))), (q_19, .inr (8, [.ref q_21, .int (nI cl_45), .ref q_22, .int (nI ol_46), .int j_47, .int j_48, .int j_49, .int j_50])), (q_21, .inl (k_23, 60, .inl f_51)), (q_22, .inl (k_24, 60, .inl g_52)), (q_58, .inl (k_60, nn_59, .inl f_61)), (q_56, .inr (9, [.int 0, .int 0, .ref q_58])), (q_74, .inl (k_75, sL i_70, .inl f_76))]) (w1 := []) hP hD [] [0, 1, 2, 3, 4, 5, 6, 7, 8, 9, 10] rfl rfl (by decide) (by decide) hk1 hFc hP1 hD1
  have hK := (hK.sub (tys' := [(cA_14, .object RX9), (cA_16, .int), (cA_18, .object RX9), (cA_27, .int), (k_23, .int), (k_24, .char), (k_60, .int), (k_75, .char)]) [0, 1, 2, 3, 4, 5, 6, 7] rfl).app hK1
  have hP : va_P (dC, dI) vwCl [(h0, .inr (10, [.ref q_13, .int 0, .ref q_15, .ref q_17, .ref q_19, .ref q_26])), (q_13, .inl (cA_14, 20, .inr (.inr (.inr (.inr (fun _ => none)))))), (q_15, .inl (cA_16, 8, .inl (fun _ => 0))), (q_17, .inl (cA_18, 4, .inr (.inr (.inr (.inr g_66))))), (q_26, .inl (cA_27, 60, .inl (fun _ => 0))), (q_19, .inr (8, [.ref q_21, .int (nI cl_45), .ref q_22, .int (nI ol_46), .int j_47, .int j_48, .int j_49, .int j_50])), (q_21, .inl (k_23, 60, .inl f_51)), (q_22, .inl (k_24, 60, .inl g_52)), (q_58, .inl (k_60, nn_59, .inl f_61)), (q_56, .inr (9, [.int 0, .int 0, .ref q_58])), (q_74, .inl (k_75, sL i_70, .inl f_76))] H := hP
  have hD : va_D A [(h0, .inr (10, [.ref q_13, .int 0, .ref q_15, .ref q_17, .ref q_19, .ref q_26])), (q_13, .inl (cA_14, 20, .inr (.inr (.inr (.inr (fun _ => none)))))), (q_15, .inl (cA_16, 8, .inl (fun _ => 0))), (q_17, .inl (cA_18, 4, .inr (.inr (.inr (.inr g_66))))), (q_26, .inl (cA_27, 60, .inl (fun _ => 0))), (q_19, .inr (8, [.ref q_21, .int (nI cl_45), .ref q_22, .int (nI ol_46), .int j_47, .int j_48, .int j_49, .int j_50])), (q_21, .inl (k_23, 60, .inl f_51)), (q_22, .inl (k_24, 60, .inl g_52)), (q_58, .inl (k_60, nn_59, .inl f_61)), (q_56, .inr (9, [.int 0, .int 0, .ref q_58])), (q_74, .inl (k_75, sL i_70, .inl f_76))] := hD
  have hK : va_K (dC, dI) vwCl [(cA_14, .object RX9), (cA_16, .int), (cA_18, .object RX9), (cA_27, .int), (k_23, .int), (k_24, .char), (k_60, .int), (k_75, .char)] s := hK
  have hPc := hP.sub (ws' := [(q_19, .inr (8, [.ref q_21, .int (nI cl_45), .ref q_22, .int (nI ol_46), .int j_47, .int j_48, .int j_49, .int j_50])), (q_21, .inl (k_23, 60, .inl f_51)), (q_22, .inl (k_24, 60, .inl g_52)), (q_74, .inl (k_75, (sL i_70), .inl f_76))]) [5, 6, 7, 10] rfl
  have hDc := hD.sub (ws' := [(q_19, .inr (8, [.ref q_21, .int (nI cl_45), .ref q_22, .int (nI ol_46), .int j_47, .int j_48, .int j_49, .int j_50])), (q_21, .inl (k_23, 60, .inl f_51)), (q_22, .inl (k_24, 60, .inl g_52)), (q_74, .inl (k_75, (sL i_70), .inl f_76))]) [5, 6, 7, 10] (by decide) rfl
  have hKc := hK.sub (tys' := [(k_23, .int), (k_24, .char), (k_75, .char)]) [4, 5, 7] rfl
  have hFc := va_free (wc := [(q_19, .inr (8, [.ref q_21, .int (nI cl_45), .ref q_22, .int (nI ol_46), .int j_47, .int j_48, .int j_49, .int j_50])), (q_21, .inl (k_23, 60, .inl f_51)), (q_22, .inl (k_24, 60, .inl g_52)), (q_74, .inl (k_75, (sL i_70), .inl f_76))]) hD hS hA [5, 6, 7, 10] rfl
  refine va_calli (va_runV (As := [.ref q_74, .int (nI (sL i_70)), .ref (ad i_79)]) (rest := []) ⟨hx, hb, hml, hown, hts⟩ (o_r_read l dC dI ad av H.size q_19 q_21 q_22 q_74 (sL i_70) k_23 k_24 k_75 f_51 g_52 f_76 (nI cl_45) (nI ol_46) j_47 j_48 j_49 j_50 i_79 (sL_le i_70) (by omega)) (cwV 3 hts (gi_4 (List.mem_cons_of_mem _ (List.mem_append_left _ (List.mem_of_getElem? (i := 24) rfl))) (List.mem_cons_of_mem _ (List.mem_append_left _ (List.mem_of_getElem? (i := 25) rfl))) (List.mem_cons_of_mem _ (List.mem_append_left _ (List.mem_of_getElem? (i := 26) rfl))) (List.mem_cons_of_mem _ (List.mem_append_left _ (List.mem_of_getElem? (i := 11) rfl))) (fun _ hh => (List.mem_cons_of_mem _ (List.mem_append_right _ (List.mem_append_right _ (List.mem_append_right _ (List.mem_append_right _ (List.mem_append_right _ (List.mem_append_right _ (List.mem_append_right _ (List.mem_append_left _ hh)))))))))) gd_o_r_read) rfl rfl rfl (by decide +kernel) ⟨Nat.le_of_ble_eq_true rfl, Nat.le_of_ble_eq_true rfl⟩) ⟨pr_blind, va_recv hKc hPc (ci := 8) (q0 := 0) rfl rfl, pr_use hPc hKc hDc hFc hS hM⟩ rfl rfl hl.1 rfl (lv_room (Nat.le_of_ble_eq_true rfl)) dX10_init_79 ⟨Nat.le_of_ble_eq_true rfl, Nat.le_of_ble_eq_true rfl⟩) hS (fun q _ h => hFc q h) hFc (fun r_83 u t H locs ht hvm hw hB hz1 hk1 hS => ?_)
  refine W.widen (k := 11) (n := 329) (Nat.le_of_ble_eq_true rfl) (Nat.le_of_ble_eq_true rfl) ?_
  subst hw
  obtain ⟨r_84, cl_85, ol_86, j_87, j_88, j_89, j_90, f_91, g_92, hre_93, hf_94, hf_95, hP1, hK1, hD1⟩ := hB
  refine lq_top (v := r_84) hre_93 ?_
  rw [ht] at hP1
  have hK1 := va_K.moved hvm.symm hK1
  obtain ⟨hP, hD⟩ := va_join (wr := [(h0, .inr (10, [.ref q_13, .int 0, .ref q_15, .ref q_17, .ref q_19, .ref q_26])), (q_13, .inl (cA_14, 20, .inr (.inr (.inr (.inr (fun _ => none)))))), (q_15, .inl (cA_16, 8, .inl (fun _ => 0))), (q_17, .inl (cA_18, 4, .inr (.inr (.inr (.inr g_66))))), (q_26, .inl (cA_27, 60, .inl (fun _ => 0))), (q_58, .inl (k_60, nn_59, .inl f_61)), (q_56, .inr (9, [.int 0, .int 0, .ref q_58]))]) (w1 := [(q_19, .inr (8, [.ref q_21, .int (nI cl_85), .ref q_22, .int (nI ol_86), .int j_87, .int j_88, .int j_89, .int j_90])), (q_21, .inl (k_23, 60, .inl f_91)), (q_22, .inl (k_24, 60, .inl g_92))]) hP hD [5, 6, 7, 10] [0, 1, 2, 3, 4, 8, 9] rfl rfl (by decide) (by decide) hk1 hFc hP1 hD1
  have hK := (hK.sub (tys' := [(cA_14, .object RX9), (cA_16, .int), (cA_18, .object RX9), (cA_27, .int), (k_60, .int)]) [0, 1, 2, 3, 6] rfl).app hK1
  have hP : va_P (dC, dI) vwCl [(h0, .inr (10, [.ref q_13, .int 0, .ref q_15, .ref q_17, .ref q_19, .ref q_26])), (q_13, .inl (cA_14, 20, .inr (.inr (.inr (.inr (fun _ => none)))))), (q_15, .inl (cA_16, 8, .inl (fun _ => 0))), (q_17, .inl (cA_18, 4, .inr (.inr (.inr (.inr g_66))))), (q_26, .inl (cA_27, 60, .inl (fun _ => 0))), (q_58, .inl (k_60, nn_59, .inl f_61)), (q_56, .inr (9, [.int 0, .int 0, .ref q_58])), (q_19, .inr (8, [.ref q_21, .int (nI cl_85), .ref q_22, .int (nI ol_86), .int j_87, .int j_88, .int j_89, .int j_90])), (q_21, .inl (k_23, 60, .inl f_91)), (q_22, .inl (k_24, 60, .inl g_92))] H := hP
  have hD : va_D A [(h0, .inr (10, [.ref q_13, .int 0, .ref q_15, .ref q_17, .ref q_19, .ref q_26])), (q_13, .inl (cA_14, 20, .inr (.inr (.inr (.inr (fun _ => none)))))), (q_15, .inl (cA_16, 8, .inl (fun _ => 0))), (q_17, .inl (cA_18, 4, .inr (.inr (.inr (.inr g_66))))), (q_26, .inl (cA_27, 60, .inl (fun _ => 0))), (q_58, .inl (k_60, nn_59, .inl f_61)), (q_56, .inr (9, [.int 0, .int 0, .ref q_58])), (q_19, .inr (8, [.ref q_21, .int (nI cl_85), .ref q_22, .int (nI ol_86), .int j_87, .int j_88, .int j_89, .int j_90])), (q_21, .inl (k_23, 60, .inl f_91)), (q_22, .inl (k_24, 60, .inl g_92))] := hD
  have hK : va_K (dC, dI) vwCl [(cA_14, .object RX9), (cA_16, .int), (cA_18, .object RX9), (cA_27, .int), (k_60, .int), (k_23, .int), (k_24, .char)] s := hK
  refine lv_pop hx hb dX10_init_82 rfl ?_
  refine lv_aload_n hx hb dX10_init_83 rfl (lv_at hl 2 rfl) ?_
  refine va_get (D := (dC, dI)) (ci := 10) (v := .ref q_17) (C := RX10) (T := TX10) (N := 6) hx hb hts (fun _ hh => (List.mem_cons_of_mem _ (List.mem_append_right _ (List.mem_append_left _ hh)))) hown hK hP 0 rfl rfl 3 (by decide) (hts (.fieldLink RX10 25 "TypingPool$Rules" "atFirst" "[LTypingPool$Rule;") (List.mem_cons_of_mem _ (List.mem_append_left _ (List.mem_of_getElem? (i := 8) rfl)))) (fun _ h9 => h9) rfl dX10_init_84 ?_
  refine lv_iload_n hx hb dX10_init_87 rfl (lv_at hl 1 rfl) ?_
  refine va_new (ci := 9) (fs := [.int 0, .int 0, .null]) (C := RX9) (T := TX9) (N := 3) hx hb hts (fun _ hh => (List.mem_cons_of_mem _ (List.mem_append_right _ (List.mem_append_right _ (List.mem_append_right _ (List.mem_append_right _ (List.mem_append_right _ (List.mem_append_right _ (List.mem_append_right _ (List.mem_append_right _ (List.mem_append_left _ hh))))))))))) tyX9 tyX9_ok hown (hts (.classLink RX10 9 RX9) (List.mem_cons_of_mem _ (List.mem_append_left _ (List.mem_of_getElem? (i := 3) rfl)))) (hts (.instantiable RX9 3) (List.mem_cons_of_mem _ (List.mem_append_left _ (List.mem_of_getElem? (i := 27) rfl)))) (hts (.initialized RX9) (List.mem_cons_of_mem _ (List.mem_append_left _ (List.mem_of_getElem? (i := 28) rfl)))) hK hP hD hS hA rfl (fun j hj => by rcases (show j = 0 ∨ j = 1 ∨ j = 2 by omega) with rfl | rfl | rfl <;> rfl) (Nat.le_of_ble_eq_true rfl) (Nat.le_of_ble_eq_true rfl) dX10_init_88 (fun q_96 H hP hD hS => ?_)
  refine W.widen (k := 12) (n := 332) (Nat.le_of_ble_eq_true rfl) (by omega) ?_
  have hP : va_P (dC, dI) vwCl [(h0, .inr (10, [.ref q_13, .int 0, .ref q_15, .ref q_17, .ref q_19, .ref q_26])), (q_13, .inl (cA_14, 20, .inr (.inr (.inr (.inr (fun _ => none)))))), (q_15, .inl (cA_16, 8, .inl (fun _ => 0))), (q_17, .inl (cA_18, 4, .inr (.inr (.inr (.inr g_66))))), (q_26, .inl (cA_27, 60, .inl (fun _ => 0))), (q_58, .inl (k_60, nn_59, .inl f_61)), (q_56, .inr (9, [.int 0, .int 0, .ref q_58])), (q_19, .inr (8, [.ref q_21, .int (nI cl_85), .ref q_22, .int (nI ol_86), .int j_87, .int j_88, .int j_89, .int j_90])), (q_21, .inl (k_23, 60, .inl f_91)), (q_22, .inl (k_24, 60, .inl g_92)), (q_96, .inr (9, [.int 0, .int 0, .null]))] H := hP
  have hD : va_D A [(h0, .inr (10, [.ref q_13, .int 0, .ref q_15, .ref q_17, .ref q_19, .ref q_26])), (q_13, .inl (cA_14, 20, .inr (.inr (.inr (.inr (fun _ => none)))))), (q_15, .inl (cA_16, 8, .inl (fun _ => 0))), (q_17, .inl (cA_18, 4, .inr (.inr (.inr (.inr g_66))))), (q_26, .inl (cA_27, 60, .inl (fun _ => 0))), (q_58, .inl (k_60, nn_59, .inl f_61)), (q_56, .inr (9, [.int 0, .int 0, .ref q_58])), (q_19, .inr (8, [.ref q_21, .int (nI cl_85), .ref q_22, .int (nI ol_86), .int j_87, .int j_88, .int j_89, .int j_90])), (q_21, .inl (k_23, 60, .inl f_91)), (q_22, .inl (k_24, 60, .inl g_92)), (q_96, .inr (9, [.int 0, .int 0, .null]))] := hD
  refine lv_dup hx hb dX10_init_91 rfl ?_
  refine lv_iload_n hx hb dX10_init_92 rfl (lv_at hl 1 rfl) ?_
  refine lv_iconst (v := 0) hx hb dX10_init_93 (by decide) ?_
  refine lv_aload_n hx hb dX10_init_94 rfl (lv_at hl 2 rfl) ?_
  refine va_get (D := (dC, dI)) (ci := 10) (v := .ref q_19) (C := RX10) (T := TX10) (N := 6) hx hb hts (fun _ hh => (List.mem_cons_of_mem _ (List.mem_append_right _ (List.mem_append_left _ hh)))) hown hK hP 0 rfl rfl 4 (by decide) (hts (.fieldLink RX10 31 "TypingPool$Rules" "reader" "LTypingPool$Reader;") (List.mem_cons_of_mem _ (List.mem_append_left _ (List.mem_of_getElem? (i := 13) rfl)))) (fun _ h9 => h9) rfl dX10_init_95 ?_
  have hPc := hP.sub (ws' := [(q_19, .inr (8, [.ref q_21, .int (nI cl_85), .ref q_22, .int (nI ol_86), .int j_87, .int j_88, .int j_89, .int j_90])), (q_21, .inl (k_23, 60, .inl f_91)), (q_22, .inl (k_24, 60, .inl g_92))]) [7, 8, 9] rfl
  have hDc := hD.sub (ws' := [(q_19, .inr (8, [.ref q_21, .int (nI cl_85), .ref q_22, .int (nI ol_86), .int j_87, .int j_88, .int j_89, .int j_90])), (q_21, .inl (k_23, 60, .inl f_91)), (q_22, .inl (k_24, 60, .inl g_92))]) [7, 8, 9] (by decide) rfl
  have hKc := hK.sub (tys' := [(k_23, .int), (k_24, .char)]) [5, 6] rfl
  have hFc := va_free (wc := [(q_19, .inr (8, [.ref q_21, .int (nI cl_85), .ref q_22, .int (nI ol_86), .int j_87, .int j_88, .int j_89, .int j_90])), (q_21, .inl (k_23, 60, .inl f_91)), (q_22, .inl (k_24, 60, .inl g_92))]) hD hS hA [7, 8, 9] rfl
  refine va_callr (va_runV (As := []) (rest := [.int 0, .int 1, .ref q_96, .ref q_96, .int 1, .ref q_17]) ⟨hx, hb, hml, hown, hts⟩ (o_r_codeRead2 l dC dI ad av H.size q_19 q_21 q_22 cl_85 ol_86 k_23 k_24 f_91 g_92 j_87 j_88 j_89 j_90 hf_94 hf_95) (cwV 0 hts (gi_4 (List.mem_cons_of_mem _ (List.mem_append_left _ (List.mem_of_getElem? (i := 29) rfl))) (List.mem_cons_of_mem _ (List.mem_append_left _ (List.mem_of_getElem? (i := 30) rfl))) (List.mem_cons_of_mem _ (List.mem_append_left _ (List.mem_of_getElem? (i := 31) rfl))) (List.mem_cons_of_mem _ (List.mem_append_left _ (List.mem_of_getElem? (i := 11) rfl))) (fun _ hh => (List.mem_cons_of_mem _ (List.mem_append_right _ (List.mem_append_right _ (List.mem_append_right _ (List.mem_append_right _ (List.mem_append_right _ (List.mem_append_right _ (List.mem_append_right _ (List.mem_append_right _ (List.mem_append_right _ (List.mem_append_left _ hh)))))))))))) gd_o_r_codeRead2) rfl rfl rfl (by decide +kernel) ⟨Nat.le_of_ble_eq_true rfl, Nat.le_of_ble_eq_true rfl⟩) ⟨pr_blind, va_recv hKc hPc (ci := 8) (q0 := 0) rfl rfl, pr_use hPc hKc hDc hFc hS hM⟩ rfl rfl hl.1 rfl (lv_room (Nat.le_of_ble_eq_true rfl)) dX10_init_98 ⟨Nat.le_of_ble_eq_true rfl, Nat.le_of_ble_eq_true rfl⟩) hS (fun q _ h => hFc q h) hFc (fun u r_97 t H locs ht hvm hw hB hz1 hk1 hS => ?_)
  refine W.widen (k := 13) (n := 392) (Nat.le_of_ble_eq_true rfl) (Nat.le_of_ble_eq_true rfl) ?_
  obtain ⟨q_98, nn_99, k_100, f_101, hre_102, hf_103, hP1, hK1, hD1⟩ := hB
  rw [hre_102]
  rw [ht] at hP1
  have hK1 := va_K.moved hvm.symm hK1
  obtain ⟨hP, hD⟩ := va_join (wr := [(h0, .inr (10, [.ref q_13, .int 0, .ref q_15, .ref q_17, .ref q_19, .ref q_26])), (q_13, .inl (cA_14, 20, .inr (.inr (.inr (.inr (fun _ => none)))))), (q_15, .inl (cA_16, 8, .inl (fun _ => 0))), (q_17, .inl (cA_18, 4, .inr (.inr (.inr (.inr g_66))))), (q_26, .inl (cA_27, 60, .inl (fun _ => 0))), (q_58, .inl (k_60, nn_59, .inl f_61)), (q_56, .inr (9, [.int 0, .int 0, .ref q_58])), (q_96, .inr (9, [.int 0, .int 0, .null]))]) (w1 := [(q_19, .inr (8, [.ref q_21, .int (nI cl_85), .ref q_22, .int (nI ol_86), .int j_87, .int j_88, .int j_89, .int j_90])), (q_21, .inl (k_23, 60, .inl f_91)), (q_22, .inl (k_24, 60, .inl g_92)), (q_98, .inl (k_100, nn_99, .inl f_101))]) hP hD [7, 8, 9] [0, 1, 2, 3, 4, 5, 6, 10] rfl rfl (by decide) (by decide) hk1 hFc hP1 hD1
  have hK := (hK.sub (tys' := [(cA_14, .object RX9), (cA_16, .int), (cA_18, .object RX9), (cA_27, .int), (k_60, .int)]) [0, 1, 2, 3, 4] rfl).app hK1
  have hP : va_P (dC, dI) vwCl [(h0, .inr (10, [.ref q_13, .int 0, .ref q_15, .ref q_17, .ref q_19, .ref q_26])), (q_13, .inl (cA_14, 20, .inr (.inr (.inr (.inr (fun _ => none)))))), (q_15, .inl (cA_16, 8, .inl (fun _ => 0))), (q_17, .inl (cA_18, 4, .inr (.inr (.inr (.inr g_66))))), (q_26, .inl (cA_27, 60, .inl (fun _ => 0))), (q_58, .inl (k_60, nn_59, .inl f_61)), (q_56, .inr (9, [.int 0, .int 0, .ref q_58])), (q_96, .inr (9, [.int 0, .int 0, .null])), (q_19, .inr (8, [.ref q_21, .int (nI cl_85), .ref q_22, .int (nI ol_86), .int j_87, .int j_88, .int j_89, .int j_90])), (q_21, .inl (k_23, 60, .inl f_91)), (q_22, .inl (k_24, 60, .inl g_92)), (q_98, .inl (k_100, nn_99, .inl f_101))] H := hP
  have hD : va_D A [(h0, .inr (10, [.ref q_13, .int 0, .ref q_15, .ref q_17, .ref q_19, .ref q_26])), (q_13, .inl (cA_14, 20, .inr (.inr (.inr (.inr (fun _ => none)))))), (q_15, .inl (cA_16, 8, .inl (fun _ => 0))), (q_17, .inl (cA_18, 4, .inr (.inr (.inr (.inr g_66))))), (q_26, .inl (cA_27, 60, .inl (fun _ => 0))), (q_58, .inl (k_60, nn_59, .inl f_61)), (q_56, .inr (9, [.int 0, .int 0, .ref q_58])), (q_96, .inr (9, [.int 0, .int 0, .null])), (q_19, .inr (8, [.ref q_21, .int (nI cl_85), .ref q_22, .int (nI ol_86), .int j_87, .int j_88, .int j_89, .int j_90])), (q_21, .inl (k_23, 60, .inl f_91)), (q_22, .inl (k_24, 60, .inl g_92)), (q_98, .inl (k_100, nn_99, .inl f_101))] := hD
  have hK : va_K (dC, dI) vwCl [(cA_14, .object RX9), (cA_16, .int), (cA_18, .object RX9), (cA_27, .int), (k_60, .int), (k_23, .int), (k_24, .char), (k_100, .int)] s := hK
  have hPc := hP.sub (ws' := [(q_96, .inr (9, [.int 0, .int 0, .null]))]) [7] rfl
  have hDc := hD.sub (ws' := [(q_96, .inr (9, [.int 0, .int 0, .null]))]) [7] (by decide) rfl
  have hKc := hK.sub (tys' := []) [] rfl
  have hFc := va_free (wc := [(q_96, .inr (9, [.int 0, .int 0, .null]))]) hD hS hA [7] rfl
  refine va_callv (va_runI (As := [.int 1, .int 0, .ref q_98]) (rest := [.ref q_96, .int 1, .ref q_17]) ⟨hx, hb, hml, hown, hts⟩ (o_c_Rule_init l dC dI ad av H.size q_96 q_98 1 0 ) (cwI 3 hts (gi_0  (fun _ hh => (List.mem_cons_of_mem _ (List.mem_append_right _ (List.mem_append_right _ (List.mem_append_right _ (List.mem_append_right _ (List.mem_append_right _ (List.mem_append_right _ (List.mem_append_right _ (List.mem_append_right _ (List.mem_append_right _ (List.mem_append_right _ (List.mem_append_left _ hh))))))))))))) gd_o_c_Rule_init) rfl rfl rfl (hts (.initialized RX9) (List.mem_cons_of_mem _ (List.mem_append_left _ (List.mem_of_getElem? (i := 28) rfl)))) (hts (.methodLink RX10 59 yX9_init) (List.mem_cons_of_mem _ (List.mem_append_left _ (List.mem_of_getElem? (i := 33) rfl)))) (hts (.instanceMethod yX9_init) (List.mem_cons_of_mem _ (List.mem_append_left _ (List.mem_of_getElem? (i := 32) rfl)))) rfl (by decide +kernel) ⟨Nat.le_of_ble_eq_true rfl, Nat.le_of_ble_eq_true rfl⟩) ⟨pr_blind, pr_use hPc hKc hDc hFc hS hM⟩ rfl rfl hl.1 rfl (lv_room (Nat.le_of_ble_eq_true rfl)) dX10_init_101 ⟨Nat.le_of_ble_eq_true rfl, Nat.le_of_ble_eq_true rfl⟩) hS (fun q _ h => hFc q h) hFc (fun u t H locs ht hvm hw hB hz1 hk1 hS => ?_)
  refine W.widen (k := 13) (n := 392) (Nat.le_of_ble_eq_true rfl) (Nat.le_of_ble_eq_true rfl) ?_
  obtain ⟨hP1, hK1, hD1⟩ := hB
  rw [ht] at hP1
  have hK1 := va_K.moved hvm.symm hK1
  obtain ⟨hP, hD⟩ := va_join (wr := [(h0, .inr (10, [.ref q_13, .int 0, .ref q_15, .ref q_17, .ref q_19, .ref q_26])), (q_13, .inl (cA_14, 20, .inr (.inr (.inr (.inr (fun _ => none)))))), (q_15, .inl (cA_16, 8, .inl (fun _ => 0))), (q_17, .inl (cA_18, 4, .inr (.inr (.inr (.inr g_66))))), (q_26, .inl (cA_27, 60, .inl (fun _ => 0))), (q_58, .inl (k_60, nn_59, .inl f_61)), (q_56, .inr (9, [.int 0, .int 0, .ref q_58])), (q_19, .inr (8, [.ref q_21, .int (nI cl_85), .ref q_22, .int (nI ol_86), .int j_87, .int j_88, .int j_89, .int j_90])), (q_21, .inl (k_23, 60, .inl f_91)), (q_22, .inl (k_24, 60, .inl g_92)), (q_98, .inl (k_100, nn_99, .inl f_101))]) (w1 := [(q_96, .inr (9, [.int 1, .int 0, .ref q_98]))]) hP hD [7] [0, 1, 2, 3, 4, 5, 6, 8, 9, 10, 11] rfl rfl (by decide) (by decide) hk1 hFc hP1 hD1
  have hK := (hK.sub (tys' := [(cA_14, .object RX9), (cA_16, .int), (cA_18, .object RX9), (cA_27, .int), (k_60, .int), (k_23, .int), (k_24, .char), (k_100, .int)]) [0, 1, 2, 3, 4, 5, 6, 7] rfl).app hK1
  have hP : va_P (dC, dI) vwCl [(h0, .inr (10, [.ref q_13, .int 0, .ref q_15, .ref q_17, .ref q_19, .ref q_26])), (q_13, .inl (cA_14, 20, .inr (.inr (.inr (.inr (fun _ => none)))))), (q_15, .inl (cA_16, 8, .inl (fun _ => 0))), (q_17, .inl (cA_18, 4, .inr (.inr (.inr (.inr g_66))))), (q_26, .inl (cA_27, 60, .inl (fun _ => 0))), (q_58, .inl (k_60, nn_59, .inl f_61)), (q_56, .inr (9, [.int 0, .int 0, .ref q_58])), (q_19, .inr (8, [.ref q_21, .int (nI cl_85), .ref q_22, .int (nI ol_86), .int j_87, .int j_88, .int j_89, .int j_90])), (q_21, .inl (k_23, 60, .inl f_91)), (q_22, .inl (k_24, 60, .inl g_92)), (q_98, .inl (k_100, nn_99, .inl f_101)), (q_96, .inr (9, [.int 1, .int 0, .ref q_98]))] H := hP
  have hD : va_D A [(h0, .inr (10, [.ref q_13, .int 0, .ref q_15, .ref q_17, .ref q_19, .ref q_26])), (q_13, .inl (cA_14, 20, .inr (.inr (.inr (.inr (fun _ => none)))))), (q_15, .inl (cA_16, 8, .inl (fun _ => 0))), (q_17, .inl (cA_18, 4, .inr (.inr (.inr (.inr g_66))))), (q_26, .inl (cA_27, 60, .inl (fun _ => 0))), (q_58, .inl (k_60, nn_59, .inl f_61)), (q_56, .inr (9, [.int 0, .int 0, .ref q_58])), (q_19, .inr (8, [.ref q_21, .int (nI cl_85), .ref q_22, .int (nI ol_86), .int j_87, .int j_88, .int j_89, .int j_90])), (q_21, .inl (k_23, 60, .inl f_91)), (q_22, .inl (k_24, 60, .inl g_92)), (q_98, .inl (k_100, nn_99, .inl f_101)), (q_96, .inr (9, [.int 1, .int 0, .ref q_98]))] := hD
  have hK : va_K (dC, dI) vwCl [(cA_14, .object RX9), (cA_16, .int), (cA_18, .object RX9), (cA_27, .int), (k_60, .int), (k_23, .int), (k_24, .char), (k_100, .int)] s := hK
  refine va_astq hx hb hK hP hD hS 3 2 11 9 rfl rfl rfl rfl (by unfold vp_in; decide) dX10_init_104 (fun H locs hP hD hS => ?_)
  obtain ⟨g_106, eg_106⟩ : ∃ y : Nat → Option Nat, y = va_up g_66 (1 : Int32).toNatClampNeg (some q_96) := ⟨_, rfl⟩
  have hP : va_P (dC, dI) vwCl [(h0, .inr (10, [.ref q_13, .int 0, .ref q_15, .ref q_17, .ref q_19, .ref q_26])), (q_13, .inl (cA_14, 20, .inr (.inr (.inr (.inr (fun _ => none)))))), (q_15, .inl (cA_16, 8, .inl (fun _ => 0))), (q_17, .inl (cA_18, 4, .inr (.inr (.inr (.inr g_106))))), (q_26, .inl (cA_27, 60, .inl (fun _ => 0))), (q_58, .inl (k_60, nn_59, .inl f_61)), (q_56, .inr (9, [.int 0, .int 0, .ref q_58])), (q_19, .inr (8, [.ref q_21, .int (nI cl_85), .ref q_22, .int (nI ol_86), .int j_87, .int j_88, .int j_89, .int j_90])), (q_21, .inl (k_23, 60, .inl f_91)), (q_22, .inl (k_24, 60, .inl g_92)), (q_98, .inl (k_100, nn_99, .inl f_101)), (q_96, .inr (9, [.int 1, .int 0, .ref q_98]))] H := by rw [eg_106]; exact hP
  have hD : va_D A [(h0, .inr (10, [.ref q_13, .int 0, .ref q_15, .ref q_17, .ref q_19, .ref q_26])), (q_13, .inl (cA_14, 20, .inr (.inr (.inr (.inr (fun _ => none)))))), (q_15, .inl (cA_16, 8, .inl (fun _ => 0))), (q_17, .inl (cA_18, 4, .inr (.inr (.inr (.inr g_106))))), (q_26, .inl (cA_27, 60, .inl (fun _ => 0))), (q_58, .inl (k_60, nn_59, .inl f_61)), (q_56, .inr (9, [.int 0, .int 0, .ref q_58])), (q_19, .inr (8, [.ref q_21, .int (nI cl_85), .ref q_22, .int (nI ol_86), .int j_87, .int j_88, .int j_89, .int j_90])), (q_21, .inl (k_23, 60, .inl f_91)), (q_22, .inl (k_24, 60, .inl g_92)), (q_98, .inl (k_100, nn_99, .inl f_101)), (q_96, .inr (9, [.int 1, .int 0, .ref q_98]))] := by rw [eg_106]; exact hD
  have hga_107 : g_106 0 = some q_56 := by rw [eg_106]; exact (if_neg (by decide)).trans hga_67
  have hga_108 : g_106 1 = some q_96 := by rw [eg_106]; exact if_pos (by decide)
  refine lv_iinc (v := 2) (lv' := [(1, .int 2), (2, .ref q_74), (0, .ref h0)]) hx hb dX10_init_105 hl (k := 1) rfl (by decide) (by decide) rfl (fun ls hl => ?_)
  refine lv_goto (tgt := 55) hx hb dX10_init_108 (by decide) ?_
  refine lv_iload_n hx hb dX10_init_55 rfl (lv_at hl 0 rfl) ?_
  refine lv_iconst (v := 4) hx hb dX10_init_56 (by decide) ?_
  refine lv_icmp_ge (tgt := 111) hx hb dX10_init_57 (by decide) (fun c_109 => absurd c_109 (by decide)) (fun c_109 => ?_)
  refine lv_iload_n hx hb dX10_init_60 rfl (lv_at hl 0 rfl) ?_
  have hPc := hP.sub (ws' := []) [] rfl
  have hDc := hD.sub (ws' := []) [] (by decide) rfl
  have hKc := hK.sub (tys' := []) [] rfl
  have hFc := va_free (wc := []) hD hS hA [] rfl
  refine va_callr (va_runS (As := [.int 2]) (rest := []) ⟨hx, hb, hml, hown, hts⟩ (o_c_textAtFirst l dC dI ad av H.size 2 ) (va_cwS 1 hts (gi_3 (List.mem_cons_of_mem _ (List.mem_append_left _ (List.mem_of_getElem? (i := 15) rfl))) (List.mem_cons_of_mem _ (List.mem_append_left _ (List.mem_of_getElem? (i := 16) rfl))) (List.mem_cons_of_mem _ (List.mem_append_left _ (List.mem_of_getElem? (i := 17) rfl))) (fun _ hh => (List.mem_cons_of_mem _ (List.mem_append_right _ (List.mem_append_right _ (List.mem_append_right _ (List.mem_append_right _ (List.mem_append_left _ hh))))))) gd_o_c_textAtFirst) rfl rfl rfl (by decide +kernel) ⟨Nat.le_of_ble_eq_true rfl, Nat.le_of_ble_eq_true rfl⟩) ⟨pr_blind, pr_use hPc hKc hDc hFc hS hM⟩ rfl rfl hl.1 rfl (lv_room (Nat.le_of_ble_eq_true rfl)) dX10_init_61 ⟨Nat.le_of_ble_eq_true rfl, Nat.le_of_ble_eq_true rfl⟩) hS (fun q _ h => hFc q h) hFc (fun u r_110 t H locs ht hvm hw hB hz1 hk1 hS => ?_)
  refine W.widen (k := 13) (n := 392) (Nat.le_of_ble_eq_true rfl) (Nat.le_of_ble_eq_true rfl) ?_
  obtain ⟨i_111, hre_112, hf_113, hP1, hK1, hD1⟩ := hB
  rw [hre_112]
  rw [ht] at hP1
  have hK1 := va_K.moved hvm.symm hK1
  obtain ⟨hP, hD⟩ := va_join (wr := [(h0, .inr (10, [.ref q_13, .int 0, .ref q_15, .ref q_17, .ref q_19, .ref q_26])), (q_13, .inl (cA_14, 20, .inr (.inr (.inr (.inr (fun _ => none)))))), (q_15, .inl (cA_16, 8, .inl (fun _ => 0))), (q_17, .inl (cA_18, 4, .inr (.inr (.inr (.inr g_106))))), (q_26, .inl (cA_27, 60, .inl (fun _ => 0))), (q_58, .inl (k_60, nn_59, .inl f_61)), (q_56, .inr (9, [.int 0, .int 0, .ref q_58])), (q_19, .inr (8, [.ref q_21, .int (nI cl_85), .ref q_22, .int (nI ol_86), .int j_87, .int j_88, .int j_89, .int j_90])), (q_21, .inl (k_23, 60, .inl f_91)), (q_22, .inl (k_24, 60, .inl g_92)), (q_98, .inl (k_100, nn_99, .inl f_101)), (q_96, .inr (9, [.int 1, .int 0, .ref q_98]))]) (w1 := []) hP hD [] [0, 1, 2, 3, 4, 5, 6, 7, 8, 9, 10, 11] rfl rfl (by decide) (by decide) hk1 hFc hP1 hD1
  have hK := (hK.sub (tys' := [(cA_14, .object RX9), (cA_16, .int), (cA_18, .object RX9), (cA_27, .int), (k_60, .int), (k_23, .int), (k_24, .char), (k_100, .int)]) [0, 1, 2, 3, 4, 5, 6, 7] rfl).app hK1
  have hP : va_P (dC, dI) vwCl [(h0, .inr (10, [.ref q_13, .int 0, .ref q_15, .ref q_17, .ref q_19, .ref q_26])), (q_13, .inl (cA_14, 20, .inr (.inr (.inr (.inr (fun _ => none)))))), (q_15, .inl (cA_16, 8, .inl (fun _ => 0))), (q_17, .inl (cA_18, 4, .inr (.inr (.inr (.inr g_106))))), (q_26, .inl (cA_27, 60, .inl (fun _ => 0))), (q_58, .inl (k_60, nn_59, .inl f_61)), (q_56, .inr (9, [.int 0, .int 0, .ref q_58])), (q_19, .inr (8, [.ref q_21, .int (nI cl_85), .ref q_22, .int (nI ol_86), .int j_87, .int j_88, .int j_89, .int j_90])), (q_21, .inl (k_23, 60, .inl f_91)), (q_22, .inl (k_24, 60, .inl g_92)), (q_98, .inl (k_100, nn_99, .inl f_101)), (q_96, .inr (9, [.int 1, .int 0, .ref q_98]))] H := hP
  have hD : va_D A [(h0, .inr (10, [.ref q_13, .int 0, .ref q_15, .ref q_17, .ref q_19, .ref q_26])), (q_13, .inl (cA_14, 20, .inr (.inr (.inr (.inr (fun _ => none)))))), (q_15, .inl (cA_16, 8, .inl (fun _ => 0))), (q_17, .inl (cA_18, 4, .inr (.inr (.inr (.inr g_106))))), (q_26, .inl (cA_27, 60, .inl (fun _ => 0))), (q_58, .inl (k_60, nn_59, .inl f_61)), (q_56, .inr (9, [.int 0, .int 0, .ref q_58])), (q_19, .inr (8, [.ref q_21, .int (nI cl_85), .ref q_22, .int (nI ol_86), .int j_87, .int j_88, .int j_89, .int j_90])), (q_21, .inl (k_23, 60, .inl f_91)), (q_22, .inl (k_24, 60, .inl g_92)), (q_98, .inl (k_100, nn_99, .inl f_101)), (q_96, .inr (9, [.int 1, .int 0, .ref q_98]))] := hD
  have hK : va_K (dC, dI) vwCl [(cA_14, .object RX9), (cA_16, .int), (cA_18, .object RX9), (cA_27, .int), (k_60, .int), (k_23, .int), (k_24, .char), (k_100, .int)] s := hK
  have hPc := hP.sub (ws' := []) [] rfl
  have hDc := hD.sub (ws' := []) [] (by decide) rfl
  have hKc := hK.sub (tys' := []) [] rfl
  have hFc := va_free (wc := []) hD hS hA [] rfl
  refine va_callr (va_runV (As := []) (rest := []) ⟨hx, hb, hml, hown, hts⟩ (j_toCharArray l dC dI ad av H.size i_111 (by omega)) (cwV 0 hts (gi_4 (List.mem_cons_of_mem _ (List.mem_append_left _ (List.mem_of_getElem? (i := 18) rfl))) (List.mem_cons_of_mem _ (List.mem_append_left _ (List.mem_of_getElem? (i := 19) rfl))) (List.mem_cons_of_mem _ (List.mem_append_left _ (List.mem_of_getElem? (i := 20) rfl))) (List.mem_cons_of_mem _ (List.mem_append_left _ (List.mem_of_getElem? (i := 21) rfl))) (fun _ hh => (List.mem_cons_of_mem _ (List.mem_append_right _ (List.mem_append_right _ (List.mem_append_right _ (List.mem_append_right _ (List.mem_append_right _ (List.mem_append_left _ hh)))))))) gd_j_toCharArray) rfl rfl rfl (by decide +kernel) ⟨Nat.le_of_ble_eq_true rfl, Nat.le_of_ble_eq_true rfl⟩) ⟨pr_blind, (st_recv (st_at hM i_111 (by omega)) hS), pr_use hPc hKc hDc hFc hS hM⟩ rfl rfl hl.1 rfl (lv_room (Nat.le_of_ble_eq_true rfl)) dX10_init_64 ⟨Nat.le_of_ble_eq_true rfl, Nat.le_of_ble_eq_true rfl⟩) hS (fun q _ h => hFc q h) hFc (fun u r_114 t H locs ht hvm hw hB hz1 hk1 hS => ?_)
  refine W.widen (k := 14) (n := 415) (Nat.le_of_ble_eq_true rfl) (Nat.le_of_ble_eq_true rfl) ?_
  obtain ⟨q_115, k_116, f_117, hre_118, hP1, hK1, hD1⟩ := hB
  rw [hre_118]
  rw [ht] at hP1
  have hK1 := va_K.moved hvm.symm hK1
  obtain ⟨hP, hD⟩ := va_join (wr := [(h0, .inr (10, [.ref q_13, .int 0, .ref q_15, .ref q_17, .ref q_19, .ref q_26])), (q_13, .inl (cA_14, 20, .inr (.inr (.inr (.inr (fun _ => none)))))), (q_15, .inl (cA_16, 8, .inl (fun _ => 0))), (q_17, .inl (cA_18, 4, .inr (.inr (.inr (.inr g_106))))), (q_26, .inl (cA_27, 60, .inl (fun _ => 0))), (q_58, .inl (k_60, nn_59, .inl f_61)), (q_56, .inr (9, [.int 0, .int 0, .ref q_58])), (q_19, .inr (8, [.ref q_21, .int (nI cl_85), .ref q_22, .int (nI ol_86), .int j_87, .int j_88, .int j_89, .int j_90])), (q_21, .inl (k_23, 60, .inl f_91)), (q_22, .inl (k_24, 60, .inl g_92)), (q_98, .inl (k_100, nn_99, .inl f_101)), (q_96, .inr (9, [.int 1, .int 0, .ref q_98]))]) (w1 := [(q_115, .inl (k_116, sL i_111, .inl f_117))]) hP hD [] [0, 1, 2, 3, 4, 5, 6, 7, 8, 9, 10, 11] rfl rfl (by decide) (by decide) hk1 hFc hP1 hD1
  have hK := (hK.sub (tys' := [(cA_14, .object RX9), (cA_16, .int), (cA_18, .object RX9), (cA_27, .int), (k_60, .int), (k_23, .int), (k_24, .char), (k_100, .int)]) [0, 1, 2, 3, 4, 5, 6, 7] rfl).app hK1
  have hP : va_P (dC, dI) vwCl [(h0, .inr (10, [.ref q_13, .int 0, .ref q_15, .ref q_17, .ref q_19, .ref q_26])), (q_13, .inl (cA_14, 20, .inr (.inr (.inr (.inr (fun _ => none)))))), (q_15, .inl (cA_16, 8, .inl (fun _ => 0))), (q_17, .inl (cA_18, 4, .inr (.inr (.inr (.inr g_106))))), (q_26, .inl (cA_27, 60, .inl (fun _ => 0))), (q_58, .inl (k_60, nn_59, .inl f_61)), (q_56, .inr (9, [.int 0, .int 0, .ref q_58])), (q_19, .inr (8, [.ref q_21, .int (nI cl_85), .ref q_22, .int (nI ol_86), .int j_87, .int j_88, .int j_89, .int j_90])), (q_21, .inl (k_23, 60, .inl f_91)), (q_22, .inl (k_24, 60, .inl g_92)), (q_98, .inl (k_100, nn_99, .inl f_101)), (q_96, .inr (9, [.int 1, .int 0, .ref q_98])), (q_115, .inl (k_116, sL i_111, .inl f_117))] H := hP
  have hD : va_D A [(h0, .inr (10, [.ref q_13, .int 0, .ref q_15, .ref q_17, .ref q_19, .ref q_26])), (q_13, .inl (cA_14, 20, .inr (.inr (.inr (.inr (fun _ => none)))))), (q_15, .inl (cA_16, 8, .inl (fun _ => 0))), (q_17, .inl (cA_18, 4, .inr (.inr (.inr (.inr g_106))))), (q_26, .inl (cA_27, 60, .inl (fun _ => 0))), (q_58, .inl (k_60, nn_59, .inl f_61)), (q_56, .inr (9, [.int 0, .int 0, .ref q_58])), (q_19, .inr (8, [.ref q_21, .int (nI cl_85), .ref q_22, .int (nI ol_86), .int j_87, .int j_88, .int j_89, .int j_90])), (q_21, .inl (k_23, 60, .inl f_91)), (q_22, .inl (k_24, 60, .inl g_92)), (q_98, .inl (k_100, nn_99, .inl f_101)), (q_96, .inr (9, [.int 1, .int 0, .ref q_98])), (q_115, .inl (k_116, sL i_111, .inl f_117))] := hD
  have hK : va_K (dC, dI) vwCl [(cA_14, .object RX9), (cA_16, .int), (cA_18, .object RX9), (cA_27, .int), (k_60, .int), (k_23, .int), (k_24, .char), (k_100, .int), (k_116, .char)] s := hK
  refine lv_astore_n (lv' := [(2, .ref q_115), (1, .int 2), (0, .ref h0)]) hx hb dX10_init_67 rfl hl (by decide) rfl (fun ls hl => ?_)
  refine lv_aload_n hx hb dX10_init_68 rfl (lv_at hl 2 rfl) ?_
  refine va_get (D := (dC, dI)) (ci := 10) (v := .ref q_19) (C := RX10) (T := TX10) (N := 6) hx hb hts (fun _ hh => (List.mem_cons_of_mem _ (List.mem_append_right _ (List.mem_append_left _ hh)))) hown hK hP 0 rfl rfl 4 (by decide) (hts (.fieldLink RX10 31 "TypingPool$Rules" "reader" "LTypingPool$Reader;") (List.mem_cons_of_mem _ (List.mem_append_left _ (List.mem_of_getElem? (i := 13) rfl)))) (fun _ h9 => h9) rfl dX10_init_69 ?_
  refine lv_aload_n hx hb dX10_init_72 rfl (lv_at hl 0 rfl) ?_
  refine lv_aload_n hx hb dX10_init_73 rfl (lv_at hl 0 rfl) ?_
  refine va_alen (v := nI (sL i_111)) hx hb hK hP 12 8 rfl rfl rfl dX10_init_74 ?_
  refine lv_iload_n hx hb dX10_init_75 rfl (lv_at hl 1 rfl) ?_
  have hPc := hP.sub (ws' := []) [] rfl
  have hDc := hD.sub (ws' := []) [] (by decide) rfl
  have hKc := hK.sub (tys' := []) [] rfl
  have hFc := va_free (wc := []) hD hS hA [] rfl
  refine va_callr (va_runS (As := [.int 2]) (rest := [.int (nI (sL i_111)), .ref q_115, .ref q_19]) ⟨hx, hb, hml, hown, hts⟩ (o_c_lettersOf l dC dI ad av H.size 2 ) (va_cwS 1 hts (gi_3 (List.mem_cons_of_mem _ (List.mem_append_left _ (List.mem_of_getElem? (i := 22) rfl))) (List.mem_cons_of_mem _ (List.mem_append_left _ (List.mem_of_getElem? (i := 23) rfl))) (List.mem_cons_of_mem _ (List.mem_append_left _ (List.mem_of_getElem? (i := 17) rfl))) (fun _ hh => (List.mem_cons_of_mem _ (List.mem_append_right _ (List.mem_append_right _ (List.mem_append_right _ (List.mem_append_right _ (List.mem_append_right _ (List.mem_append_right _ (List.mem_append_left _ hh))))))))) gd_o_c_lettersOf) rfl rfl rfl (by decide +kernel) ⟨Nat.le_of_ble_eq_true rfl, Nat.le_of_ble_eq_true rfl⟩) ⟨pr_blind, pr_use hPc hKc hDc hFc hS hM⟩ rfl rfl hl.1 rfl (lv_room (Nat.le_of_ble_eq_true rfl)) dX10_init_76 ⟨Nat.le_of_ble_eq_true rfl, Nat.le_of_ble_eq_true rfl⟩) hS (fun q _ h => hFc q h) hFc (fun u r_119 t H locs ht hvm hw hB hz1 hk1 hS => ?_)
  refine W.widen (k := 14) (n := 415) (Nat.le_of_ble_eq_true rfl) (Nat.le_of_ble_eq_true rfl) ?_
  obtain ⟨i_120, hre_121, hf_122, hf_123, hP1, hK1, hD1⟩ := hB
  rw [hre_121]
  rw [ht] at hP1
  have hK1 := va_K.moved hvm.symm hK1
  obtain ⟨hP, hD⟩ := va_join (wr := [(h0, .inr (10, [.ref q_13, .int 0, .ref q_15, .ref q_17, .ref q_19, .ref q_26])), (q_13, .inl (cA_14, 20, .inr (.inr (.inr (.inr (fun _ => none)))))), (q_15, .inl (cA_16, 8, .inl (fun _ => 0))), (q_17, .inl (cA_18, 4, .inr (.inr (.inr (.inr g_106))))), (q_26, .inl (cA_27, 60, .inl (fun _ => 0))), (q_58, .inl (k_60, nn_59, .inl f_61)), (q_56, .inr (9, [.int 0, .int 0, .ref q_58])), (q_19, .inr (8, [.ref q_21, .int (nI cl_85), .ref q_22, .int (nI ol_86), .int j_87, .int j_88, .int j_89, .int j_90])), (q_21, .inl (k_23, 60, .inl f_91)), (q_22, .inl (k_24, 60, .inl g_92)), (q_98, .inl (k_100, nn_99, .inl f_101)), (q_96, .inr (9, [.int 1, .int 0, .ref q_98])), (q_115, .inl (k_116, sL i_111, .inl f_117))]) (w1 := []) hP hD [] [0, 1, 2, 3, 4, 5, 6, 7, 8, 9, 10, 11, 12] rfl rfl (by decide) (by decide) hk1 hFc hP1 hD1
  have hK := (hK.sub (tys' := [(cA_14, .object RX9), (cA_16, .int), (cA_18, .object RX9), (cA_27, .int), (k_60, .int), (k_23, .int), (k_24, .char), (k_100, .int), (k_116, .char)]) [0, 1, 2, 3, 4, 5, 6, 7, 8] rfl).app hK1
  have hP : va_P (dC, dI) vwCl [(h0, .inr (10, [.ref q_13, .int 0, .ref q_15, .ref q_17, .ref q_19, .ref q_26])), (q_13, .inl (cA_14, 20, .inr (.inr (.inr (.inr (fun _ => none)))))), (q_15, .inl (cA_16, 8, .inl (fun _ => 0))), (q_17, .inl (cA_18, 4, .inr (.inr (.inr (.inr g_106))))), (q_26, .inl (cA_27, 60, .inl (fun _ => 0))), (q_58, .inl (k_60, nn_59, .inl f_61)), (q_56, .inr (9, [.int 0, .int 0, .ref q_58])), (q_19, .inr (8, [.ref q_21, .int (nI cl_85), .ref q_22, .int (nI ol_86), .int j_87, .int j_88, .int j_89, .int j_90])), (q_21, .inl (k_23, 60, .inl f_91)), (q_22, .inl (k_24, 60, .inl g_92)), (q_98, .inl (k_100, nn_99, .inl f_101)), (q_96, .inr (9, [.int 1, .int 0, .ref q_98])), (q_115, .inl (k_116, sL i_111, .inl f_117))] H := hP
  have hD : va_D A [(h0, .inr (10, [.ref q_13, .int 0, .ref q_15, .ref q_17, .ref q_19, .ref q_26])), (q_13, .inl (cA_14, 20, .inr (.inr (.inr (.inr (fun _ => none)))))), (q_15, .inl (cA_16, 8, .inl (fun _ => 0))), (q_17, .inl (cA_18, 4, .inr (.inr (.inr (.inr g_106))))), (q_26, .inl (cA_27, 60, .inl (fun _ => 0))), (q_58, .inl (k_60, nn_59, .inl f_61)), (q_56, .inr (9, [.int 0, .int 0, .ref q_58])), (q_19, .inr (8, [.ref q_21, .int (nI cl_85), .ref q_22, .int (nI ol_86), .int j_87, .int j_88, .int j_89, .int j_90])), (q_21, .inl (k_23, 60, .inl f_91)), (q_22, .inl (k_24, 60, .inl g_92)), (q_98, .inl (k_100, nn_99, .inl f_101)), (q_96, .inr (9, [.int 1, .int 0, .ref q_98])), (q_115, .inl (k_116, sL i_111, .inl f_117))] := hD
  have hK : va_K (dC, dI) vwCl [(cA_14, .object RX9), (cA_16, .int), (cA_18, .object RX9), (cA_27, .int), (k_60, .int), (k_23, .int), (k_24, .char), (k_100, .int), (k_116, .char)] s := hK
  have hPc := hP.sub (ws' := [(q_19, .inr (8, [.ref q_21, .int (nI cl_85), .ref q_22, .int (nI ol_86), .int j_87, .int j_88, .int j_89, .int j_90])), (q_21, .inl (k_23, 60, .inl f_91)), (q_22, .inl (k_24, 60, .inl g_92)), (q_115, .inl (k_116, (sL i_111), .inl f_117))]) [7, 8, 9, 12] rfl
  have hDc := hD.sub (ws' := [(q_19, .inr (8, [.ref q_21, .int (nI cl_85), .ref q_22, .int (nI ol_86), .int j_87, .int j_88, .int j_89, .int j_90])), (q_21, .inl (k_23, 60, .inl f_91)), (q_22, .inl (k_24, 60, .inl g_92)), (q_115, .inl (k_116, (sL i_111), .inl f_117))]) [7, 8, 9, 12] (by decide) rfl
  have hKc := hK.sub (tys' := [(k_23, .int), (k_24, .char), (k_116, .char)]) [5, 6, 8] rfl
  have hFc := va_free (wc := [(q_19, .inr (8, [.ref q_21, .int (nI cl_85), .ref q_22, .int (nI ol_86), .int j_87, .int j_88, .int j_89, .int j_90])), (q_21, .inl (k_23, 60, .inl f_91)), (q_22, .inl (k_24, 60, .inl g_92)), (q_115, .inl (k_116, (sL i_111), .inl f_117))]) hD hS hA [7, 8, 9, 12] rfl
  refine va_calli (va_runV (As := [.ref q_115, .int (nI (sL i_111)), .ref (ad i_120)]) (rest := []) ⟨hx, hb, hml, hown, hts⟩ (o_r_read l dC dI ad av H.size q_19 q_21 q_22 q_115 (sL i_111) k_23 k_24 k_116 f_91 g_92 f_117 (nI cl_85) (nI ol_86) j_87 j_88 j_89 j_90 i_120 (sL_le i_111) (by omega)) (cwV 3 hts (gi_4 (List.mem_cons_of_mem _ (List.mem_append_left _ (List.mem_of_getElem? (i := 24) rfl))) (List.mem_cons_of_mem _ (List.mem_append_left _ (List.mem_of_getElem? (i := 25) rfl))) (List.mem_cons_of_mem _ (List.mem_append_left _ (List.mem_of_getElem? (i := 26) rfl))) (List.mem_cons_of_mem _ (List.mem_append_left _ (List.mem_of_getElem? (i := 11) rfl))) (fun _ hh => (List.mem_cons_of_mem _ (List.mem_append_right _ (List.mem_append_right _ (List.mem_append_right _ (List.mem_append_right _ (List.mem_append_right _ (List.mem_append_right _ (List.mem_append_right _ (List.mem_append_left _ hh)))))))))) gd_o_r_read) rfl rfl rfl (by decide +kernel) ⟨Nat.le_of_ble_eq_true rfl, Nat.le_of_ble_eq_true rfl⟩) ⟨pr_blind, va_recv hKc hPc (ci := 8) (q0 := 0) rfl rfl, pr_use hPc hKc hDc hFc hS hM⟩ rfl rfl hl.1 rfl (lv_room (Nat.le_of_ble_eq_true rfl)) dX10_init_79 ⟨Nat.le_of_ble_eq_true rfl, Nat.le_of_ble_eq_true rfl⟩) hS (fun q _ h => hFc q h) hFc (fun r_124 u t H locs ht hvm hw hB hz1 hk1 hS => ?_)
  refine W.widen (k := 14) (n := 415) (Nat.le_of_ble_eq_true rfl) (Nat.le_of_ble_eq_true rfl) ?_
  subst hw
  obtain ⟨r_125, cl_126, ol_127, j_128, j_129, j_130, j_131, f_132, g_133, hre_134, hf_135, hf_136, hP1, hK1, hD1⟩ := hB
  refine lq_top (v := r_125) hre_134 ?_
  rw [ht] at hP1
  have hK1 := va_K.moved hvm.symm hK1
  obtain ⟨hP, hD⟩ := va_join (wr := [(h0, .inr (10, [.ref q_13, .int 0, .ref q_15, .ref q_17, .ref q_19, .ref q_26])), (q_13, .inl (cA_14, 20, .inr (.inr (.inr (.inr (fun _ => none)))))), (q_15, .inl (cA_16, 8, .inl (fun _ => 0))), (q_17, .inl (cA_18, 4, .inr (.inr (.inr (.inr g_106))))), (q_26, .inl (cA_27, 60, .inl (fun _ => 0))), (q_58, .inl (k_60, nn_59, .inl f_61)), (q_56, .inr (9, [.int 0, .int 0, .ref q_58])), (q_98, .inl (k_100, nn_99, .inl f_101)), (q_96, .inr (9, [.int 1, .int 0, .ref q_98]))]) (w1 := [(q_19, .inr (8, [.ref q_21, .int (nI cl_126), .ref q_22, .int (nI ol_127), .int j_128, .int j_129, .int j_130, .int j_131])), (q_21, .inl (k_23, 60, .inl f_132)), (q_22, .inl (k_24, 60, .inl g_133))]) hP hD [7, 8, 9, 12] [0, 1, 2, 3, 4, 5, 6, 10, 11] rfl rfl (by decide) (by decide) hk1 hFc hP1 hD1
  have hK := (hK.sub (tys' := [(cA_14, .object RX9), (cA_16, .int), (cA_18, .object RX9), (cA_27, .int), (k_60, .int), (k_100, .int)]) [0, 1, 2, 3, 4, 7] rfl).app hK1
  have hP : va_P (dC, dI) vwCl [(h0, .inr (10, [.ref q_13, .int 0, .ref q_15, .ref q_17, .ref q_19, .ref q_26])), (q_13, .inl (cA_14, 20, .inr (.inr (.inr (.inr (fun _ => none)))))), (q_15, .inl (cA_16, 8, .inl (fun _ => 0))), (q_17, .inl (cA_18, 4, .inr (.inr (.inr (.inr g_106))))), (q_26, .inl (cA_27, 60, .inl (fun _ => 0))), (q_58, .inl (k_60, nn_59, .inl f_61)), (q_56, .inr (9, [.int 0, .int 0, .ref q_58])), (q_98, .inl (k_100, nn_99, .inl f_101)), (q_96, .inr (9, [.int 1, .int 0, .ref q_98])), (q_19, .inr (8, [.ref q_21, .int (nI cl_126), .ref q_22, .int (nI ol_127), .int j_128, .int j_129, .int j_130, .int j_131])), (q_21, .inl (k_23, 60, .inl f_132)), (q_22, .inl (k_24, 60, .inl g_133))] H := hP
  have hD : va_D A [(h0, .inr (10, [.ref q_13, .int 0, .ref q_15, .ref q_17, .ref q_19, .ref q_26])), (q_13, .inl (cA_14, 20, .inr (.inr (.inr (.inr (fun _ => none)))))), (q_15, .inl (cA_16, 8, .inl (fun _ => 0))), (q_17, .inl (cA_18, 4, .inr (.inr (.inr (.inr g_106))))), (q_26, .inl (cA_27, 60, .inl (fun _ => 0))), (q_58, .inl (k_60, nn_59, .inl f_61)), (q_56, .inr (9, [.int 0, .int 0, .ref q_58])), (q_98, .inl (k_100, nn_99, .inl f_101)), (q_96, .inr (9, [.int 1, .int 0, .ref q_98])), (q_19, .inr (8, [.ref q_21, .int (nI cl_126), .ref q_22, .int (nI ol_127), .int j_128, .int j_129, .int j_130, .int j_131])), (q_21, .inl (k_23, 60, .inl f_132)), (q_22, .inl (k_24, 60, .inl g_133))] := hD
  have hK : va_K (dC, dI) vwCl [(cA_14, .object RX9), (cA_16, .int), (cA_18, .object RX9), (cA_27, .int), (k_60, .int), (k_100, .int), (k_23, .int), (k_24, .char)] s := hK
  refine lv_pop hx hb dX10_init_82 rfl ?_
  refine lv_aload_n hx hb dX10_init_83 rfl (lv_at hl 2 rfl) ?_
  refine va_get (D := (dC, dI)) (ci := 10) (v := .ref q_17) (C := RX10) (T := TX10) (N := 6) hx hb hts (fun _ hh => (List.mem_cons_of_mem _ (List.mem_append_right _ (List.mem_append_left _ hh)))) hown hK hP 0 rfl rfl 3 (by decide) (hts (.fieldLink RX10 25 "TypingPool$Rules" "atFirst" "[LTypingPool$Rule;") (List.mem_cons_of_mem _ (List.mem_append_left _ (List.mem_of_getElem? (i := 8) rfl)))) (fun _ h9 => h9) rfl dX10_init_84 ?_
  refine lv_iload_n hx hb dX10_init_87 rfl (lv_at hl 1 rfl) ?_
  refine va_new (ci := 9) (fs := [.int 0, .int 0, .null]) (C := RX9) (T := TX9) (N := 3) hx hb hts (fun _ hh => (List.mem_cons_of_mem _ (List.mem_append_right _ (List.mem_append_right _ (List.mem_append_right _ (List.mem_append_right _ (List.mem_append_right _ (List.mem_append_right _ (List.mem_append_right _ (List.mem_append_right _ (List.mem_append_left _ hh))))))))))) tyX9 tyX9_ok hown (hts (.classLink RX10 9 RX9) (List.mem_cons_of_mem _ (List.mem_append_left _ (List.mem_of_getElem? (i := 3) rfl)))) (hts (.instantiable RX9 3) (List.mem_cons_of_mem _ (List.mem_append_left _ (List.mem_of_getElem? (i := 27) rfl)))) (hts (.initialized RX9) (List.mem_cons_of_mem _ (List.mem_append_left _ (List.mem_of_getElem? (i := 28) rfl)))) hK hP hD hS hA rfl (fun j hj => by rcases (show j = 0 ∨ j = 1 ∨ j = 2 by omega) with rfl | rfl | rfl <;> rfl) (Nat.le_of_ble_eq_true rfl) (Nat.le_of_ble_eq_true rfl) dX10_init_88 (fun q_137 H hP hD hS => ?_)
  refine W.widen (k := 15) (n := 418) (Nat.le_of_ble_eq_true rfl) (by omega) ?_
  have hP : va_P (dC, dI) vwCl [(h0, .inr (10, [.ref q_13, .int 0, .ref q_15, .ref q_17, .ref q_19, .ref q_26])), (q_13, .inl (cA_14, 20, .inr (.inr (.inr (.inr (fun _ => none)))))), (q_15, .inl (cA_16, 8, .inl (fun _ => 0))), (q_17, .inl (cA_18, 4, .inr (.inr (.inr (.inr g_106))))), (q_26, .inl (cA_27, 60, .inl (fun _ => 0))), (q_58, .inl (k_60, nn_59, .inl f_61)), (q_56, .inr (9, [.int 0, .int 0, .ref q_58])), (q_98, .inl (k_100, nn_99, .inl f_101)), (q_96, .inr (9, [.int 1, .int 0, .ref q_98])), (q_19, .inr (8, [.ref q_21, .int (nI cl_126), .ref q_22, .int (nI ol_127), .int j_128, .int j_129, .int j_130, .int j_131])), (q_21, .inl (k_23, 60, .inl f_132)), (q_22, .inl (k_24, 60, .inl g_133)), (q_137, .inr (9, [.int 0, .int 0, .null]))] H := hP
  have hD : va_D A [(h0, .inr (10, [.ref q_13, .int 0, .ref q_15, .ref q_17, .ref q_19, .ref q_26])), (q_13, .inl (cA_14, 20, .inr (.inr (.inr (.inr (fun _ => none)))))), (q_15, .inl (cA_16, 8, .inl (fun _ => 0))), (q_17, .inl (cA_18, 4, .inr (.inr (.inr (.inr g_106))))), (q_26, .inl (cA_27, 60, .inl (fun _ => 0))), (q_58, .inl (k_60, nn_59, .inl f_61)), (q_56, .inr (9, [.int 0, .int 0, .ref q_58])), (q_98, .inl (k_100, nn_99, .inl f_101)), (q_96, .inr (9, [.int 1, .int 0, .ref q_98])), (q_19, .inr (8, [.ref q_21, .int (nI cl_126), .ref q_22, .int (nI ol_127), .int j_128, .int j_129, .int j_130, .int j_131])), (q_21, .inl (k_23, 60, .inl f_132)), (q_22, .inl (k_24, 60, .inl g_133)), (q_137, .inr (9, [.int 0, .int 0, .null]))] := hD
  refine lv_dup hx hb dX10_init_91 rfl ?_
  refine lv_iload_n hx hb dX10_init_92 rfl (lv_at hl 1 rfl) ?_
  refine lv_iconst (v := 0) hx hb dX10_init_93 (by decide) ?_
  refine lv_aload_n hx hb dX10_init_94 rfl (lv_at hl 2 rfl) ?_
  refine va_get (D := (dC, dI)) (ci := 10) (v := .ref q_19) (C := RX10) (T := TX10) (N := 6) hx hb hts (fun _ hh => (List.mem_cons_of_mem _ (List.mem_append_right _ (List.mem_append_left _ hh)))) hown hK hP 0 rfl rfl 4 (by decide) (hts (.fieldLink RX10 31 "TypingPool$Rules" "reader" "LTypingPool$Reader;") (List.mem_cons_of_mem _ (List.mem_append_left _ (List.mem_of_getElem? (i := 13) rfl)))) (fun _ h9 => h9) rfl dX10_init_95 ?_
  have hPc := hP.sub (ws' := [(q_19, .inr (8, [.ref q_21, .int (nI cl_126), .ref q_22, .int (nI ol_127), .int j_128, .int j_129, .int j_130, .int j_131])), (q_21, .inl (k_23, 60, .inl f_132)), (q_22, .inl (k_24, 60, .inl g_133))]) [9, 10, 11] rfl
  have hDc := hD.sub (ws' := [(q_19, .inr (8, [.ref q_21, .int (nI cl_126), .ref q_22, .int (nI ol_127), .int j_128, .int j_129, .int j_130, .int j_131])), (q_21, .inl (k_23, 60, .inl f_132)), (q_22, .inl (k_24, 60, .inl g_133))]) [9, 10, 11] (by decide) rfl
  have hKc := hK.sub (tys' := [(k_23, .int), (k_24, .char)]) [6, 7] rfl
  have hFc := va_free (wc := [(q_19, .inr (8, [.ref q_21, .int (nI cl_126), .ref q_22, .int (nI ol_127), .int j_128, .int j_129, .int j_130, .int j_131])), (q_21, .inl (k_23, 60, .inl f_132)), (q_22, .inl (k_24, 60, .inl g_133))]) hD hS hA [9, 10, 11] rfl
  refine va_callr (va_runV (As := []) (rest := [.int 0, .int 2, .ref q_137, .ref q_137, .int 2, .ref q_17]) ⟨hx, hb, hml, hown, hts⟩ (o_r_codeRead2 l dC dI ad av H.size q_19 q_21 q_22 cl_126 ol_127 k_23 k_24 f_132 g_133 j_128 j_129 j_130 j_131 hf_135 hf_136) (cwV 0 hts (gi_4 (List.mem_cons_of_mem _ (List.mem_append_left _ (List.mem_of_getElem? (i := 29) rfl))) (List.mem_cons_of_mem _ (List.mem_append_left _ (List.mem_of_getElem? (i := 30) rfl))) (List.mem_cons_of_mem _ (List.mem_append_left _ (List.mem_of_getElem? (i := 31) rfl))) (List.mem_cons_of_mem _ (List.mem_append_left _ (List.mem_of_getElem? (i := 11) rfl))) (fun _ hh => (List.mem_cons_of_mem _ (List.mem_append_right _ (List.mem_append_right _ (List.mem_append_right _ (List.mem_append_right _ (List.mem_append_right _ (List.mem_append_right _ (List.mem_append_right _ (List.mem_append_right _ (List.mem_append_right _ (List.mem_append_left _ hh)))))))))))) gd_o_r_codeRead2) rfl rfl rfl (by decide +kernel) ⟨Nat.le_of_ble_eq_true rfl, Nat.le_of_ble_eq_true rfl⟩) ⟨pr_blind, va_recv hKc hPc (ci := 8) (q0 := 0) rfl rfl, pr_use hPc hKc hDc hFc hS hM⟩ rfl rfl hl.1 rfl (lv_room (Nat.le_of_ble_eq_true rfl)) dX10_init_98 ⟨Nat.le_of_ble_eq_true rfl, Nat.le_of_ble_eq_true rfl⟩) hS (fun q _ h => hFc q h) hFc (fun u r_138 t H locs ht hvm hw hB hz1 hk1 hS => ?_)
  refine W.widen (k := 16) (n := 478) (Nat.le_of_ble_eq_true rfl) (Nat.le_of_ble_eq_true rfl) ?_
  obtain ⟨q_139, nn_140, k_141, f_142, hre_143, hf_144, hP1, hK1, hD1⟩ := hB
  rw [hre_143]
  rw [ht] at hP1
  have hK1 := va_K.moved hvm.symm hK1
  obtain ⟨hP, hD⟩ := va_join (wr := [(h0, .inr (10, [.ref q_13, .int 0, .ref q_15, .ref q_17, .ref q_19, .ref q_26])), (q_13, .inl (cA_14, 20, .inr (.inr (.inr (.inr (fun _ => none)))))), (q_15, .inl (cA_16, 8, .inl (fun _ => 0))), (q_17, .inl (cA_18, 4, .inr (.inr (.inr (.inr g_106))))), (q_26, .inl (cA_27, 60, .inl (fun _ => 0))), (q_58, .inl (k_60, nn_59, .inl f_61)), (q_56, .inr (9, [.int 0, .int 0, .ref q_58])), (q_98, .inl (k_100, nn_99, .inl f_101)), (q_96, .inr (9, [.int 1, .int 0, .ref q_98])), (q_137, .inr (9, [.int 0, .int 0, .null]))]) (w1 := [(q_19, .inr (8, [.ref q_21, .int (nI cl_126), .ref q_22, .int (nI ol_127), .int j_128, .int j_129, .int j_130, .int j_131])), (q_21, .inl (k_23, 60, .inl f_132)), (q_22, .inl (k_24, 60, .inl g_133)), (q_139, .inl (k_141, nn_140, .inl f_142))]) hP hD [9, 10, 11] [0, 1, 2, 3, 4, 5, 6, 7, 8, 12] rfl rfl (by decide) (by decide) hk1 hFc hP1 hD1
  have hK := (hK.sub (tys' := [(cA_14, .object RX9), (cA_16, .int), (cA_18, .object RX9), (cA_27, .int), (k_60, .int), (k_100, .int)]) [0, 1, 2, 3, 4, 5] rfl).app hK1
  have hP : va_P (dC, dI) vwCl [(h0, .inr (10, [.ref q_13, .int 0, .ref q_15, .ref q_17, .ref q_19, .ref q_26])), (q_13, .inl (cA_14, 20, .inr (.inr (.inr (.inr (fun _ => none)))))), (q_15, .inl (cA_16, 8, .inl (fun _ => 0))), (q_17, .inl (cA_18, 4, .inr (.inr (.inr (.inr g_106))))), (q_26, .inl (cA_27, 60, .inl (fun _ => 0))), (q_58, .inl (k_60, nn_59, .inl f_61)), (q_56, .inr (9, [.int 0, .int 0, .ref q_58])), (q_98, .inl (k_100, nn_99, .inl f_101)), (q_96, .inr (9, [.int 1, .int 0, .ref q_98])), (q_137, .inr (9, [.int 0, .int 0, .null])), (q_19, .inr (8, [.ref q_21, .int (nI cl_126), .ref q_22, .int (nI ol_127), .int j_128, .int j_129, .int j_130, .int j_131])), (q_21, .inl (k_23, 60, .inl f_132)), (q_22, .inl (k_24, 60, .inl g_133)), (q_139, .inl (k_141, nn_140, .inl f_142))] H := hP
  have hD : va_D A [(h0, .inr (10, [.ref q_13, .int 0, .ref q_15, .ref q_17, .ref q_19, .ref q_26])), (q_13, .inl (cA_14, 20, .inr (.inr (.inr (.inr (fun _ => none)))))), (q_15, .inl (cA_16, 8, .inl (fun _ => 0))), (q_17, .inl (cA_18, 4, .inr (.inr (.inr (.inr g_106))))), (q_26, .inl (cA_27, 60, .inl (fun _ => 0))), (q_58, .inl (k_60, nn_59, .inl f_61)), (q_56, .inr (9, [.int 0, .int 0, .ref q_58])), (q_98, .inl (k_100, nn_99, .inl f_101)), (q_96, .inr (9, [.int 1, .int 0, .ref q_98])), (q_137, .inr (9, [.int 0, .int 0, .null])), (q_19, .inr (8, [.ref q_21, .int (nI cl_126), .ref q_22, .int (nI ol_127), .int j_128, .int j_129, .int j_130, .int j_131])), (q_21, .inl (k_23, 60, .inl f_132)), (q_22, .inl (k_24, 60, .inl g_133)), (q_139, .inl (k_141, nn_140, .inl f_142))] := hD
  have hK : va_K (dC, dI) vwCl [(cA_14, .object RX9), (cA_16, .int), (cA_18, .object RX9), (cA_27, .int), (k_60, .int), (k_100, .int), (k_23, .int), (k_24, .char), (k_141, .int)] s := hK
  have hPc := hP.sub (ws' := [(q_137, .inr (9, [.int 0, .int 0, .null]))]) [9] rfl
  have hDc := hD.sub (ws' := [(q_137, .inr (9, [.int 0, .int 0, .null]))]) [9] (by decide) rfl
  have hKc := hK.sub (tys' := []) [] rfl
  have hFc := va_free (wc := [(q_137, .inr (9, [.int 0, .int 0, .null]))]) hD hS hA [9] rfl
  refine va_callv (va_runI (As := [.int 2, .int 0, .ref q_139]) (rest := [.ref q_137, .int 2, .ref q_17]) ⟨hx, hb, hml, hown, hts⟩ (o_c_Rule_init l dC dI ad av H.size q_137 q_139 2 0 ) (cwI 3 hts (gi_0  (fun _ hh => (List.mem_cons_of_mem _ (List.mem_append_right _ (List.mem_append_right _ (List.mem_append_right _ (List.mem_append_right _ (List.mem_append_right _ (List.mem_append_right _ (List.mem_append_right _ (List.mem_append_right _ (List.mem_append_right _ (List.mem_append_right _ (List.mem_append_left _ hh))))))))))))) gd_o_c_Rule_init) rfl rfl rfl (hts (.initialized RX9) (List.mem_cons_of_mem _ (List.mem_append_left _ (List.mem_of_getElem? (i := 28) rfl)))) (hts (.methodLink RX10 59 yX9_init) (List.mem_cons_of_mem _ (List.mem_append_left _ (List.mem_of_getElem? (i := 33) rfl)))) (hts (.instanceMethod yX9_init) (List.mem_cons_of_mem _ (List.mem_append_left _ (List.mem_of_getElem? (i := 32) rfl)))) rfl (by decide +kernel) ⟨Nat.le_of_ble_eq_true rfl, Nat.le_of_ble_eq_true rfl⟩) ⟨pr_blind, pr_use hPc hKc hDc hFc hS hM⟩ rfl rfl hl.1 rfl (lv_room (Nat.le_of_ble_eq_true rfl)) dX10_init_101 ⟨Nat.le_of_ble_eq_true rfl, Nat.le_of_ble_eq_true rfl⟩) hS (fun q _ h => hFc q h) hFc (fun u t H locs ht hvm hw hB hz1 hk1 hS => ?_)
  refine W.widen (k := 16) (n := 478) (Nat.le_of_ble_eq_true rfl) (Nat.le_of_ble_eq_true rfl) ?_
  obtain ⟨hP1, hK1, hD1⟩ := hB
  rw [ht] at hP1
  have hK1 := va_K.moved hvm.symm hK1
  obtain ⟨hP, hD⟩ := va_join (wr := [(h0, .inr (10, [.ref q_13, .int 0, .ref q_15, .ref q_17, .ref q_19, .ref q_26])), (q_13, .inl (cA_14, 20, .inr (.inr (.inr (.inr (fun _ => none)))))), (q_15, .inl (cA_16, 8, .inl (fun _ => 0))), (q_17, .inl (cA_18, 4, .inr (.inr (.inr (.inr g_106))))), (q_26, .inl (cA_27, 60, .inl (fun _ => 0))), (q_58, .inl (k_60, nn_59, .inl f_61)), (q_56, .inr (9, [.int 0, .int 0, .ref q_58])), (q_98, .inl (k_100, nn_99, .inl f_101)), (q_96, .inr (9, [.int 1, .int 0, .ref q_98])), (q_19, .inr (8, [.ref q_21, .int (nI cl_126), .ref q_22, .int (nI ol_127), .int j_128, .int j_129, .int j_130, .int j_131])), (q_21, .inl (k_23, 60, .inl f_132)), (q_22, .inl (k_24, 60, .inl g_133)), (q_139, .inl (k_141, nn_140, .inl f_142))]) (w1 := [(q_137, .inr (9, [.int 2, .int 0, .ref q_139]))]) hP hD [9] [0, 1, 2, 3, 4, 5, 6, 7, 8, 10, 11, 12, 13] rfl rfl (by decide) (by decide) hk1 hFc hP1 hD1
  have hK := (hK.sub (tys' := [(cA_14, .object RX9), (cA_16, .int), (cA_18, .object RX9), (cA_27, .int), (k_60, .int), (k_100, .int), (k_23, .int), (k_24, .char), (k_141, .int)]) [0, 1, 2, 3, 4, 5, 6, 7, 8] rfl).app hK1
  have hP : va_P (dC, dI) vwCl [(h0, .inr (10, [.ref q_13, .int 0, .ref q_15, .ref q_17, .ref q_19, .ref q_26])), (q_13, .inl (cA_14, 20, .inr (.inr (.inr (.inr (fun _ => none)))))), (q_15, .inl (cA_16, 8, .inl (fun _ => 0))), (q_17, .inl (cA_18, 4, .inr (.inr (.inr (.inr g_106))))), (q_26, .inl (cA_27, 60, .inl (fun _ => 0))), (q_58, .inl (k_60, nn_59, .inl f_61)), (q_56, .inr (9, [.int 0, .int 0, .ref q_58])), (q_98, .inl (k_100, nn_99, .inl f_101)), (q_96, .inr (9, [.int 1, .int 0, .ref q_98])), (q_19, .inr (8, [.ref q_21, .int (nI cl_126), .ref q_22, .int (nI ol_127), .int j_128, .int j_129, .int j_130, .int j_131])), (q_21, .inl (k_23, 60, .inl f_132)), (q_22, .inl (k_24, 60, .inl g_133)), (q_139, .inl (k_141, nn_140, .inl f_142)), (q_137, .inr (9, [.int 2, .int 0, .ref q_139]))] H := hP
  have hD : va_D A [(h0, .inr (10, [.ref q_13, .int 0, .ref q_15, .ref q_17, .ref q_19, .ref q_26])), (q_13, .inl (cA_14, 20, .inr (.inr (.inr (.inr (fun _ => none)))))), (q_15, .inl (cA_16, 8, .inl (fun _ => 0))), (q_17, .inl (cA_18, 4, .inr (.inr (.inr (.inr g_106))))), (q_26, .inl (cA_27, 60, .inl (fun _ => 0))), (q_58, .inl (k_60, nn_59, .inl f_61)), (q_56, .inr (9, [.int 0, .int 0, .ref q_58])), (q_98, .inl (k_100, nn_99, .inl f_101)), (q_96, .inr (9, [.int 1, .int 0, .ref q_98])), (q_19, .inr (8, [.ref q_21, .int (nI cl_126), .ref q_22, .int (nI ol_127), .int j_128, .int j_129, .int j_130, .int j_131])), (q_21, .inl (k_23, 60, .inl f_132)), (q_22, .inl (k_24, 60, .inl g_133)), (q_139, .inl (k_141, nn_140, .inl f_142)), (q_137, .inr (9, [.int 2, .int 0, .ref q_139]))] := hD
  have hK : va_K (dC, dI) vwCl [(cA_14, .object RX9), (cA_16, .int), (cA_18, .object RX9), (cA_27, .int), (k_60, .int), (k_100, .int), (k_23, .int), (k_24, .char), (k_141, .int)] s := hK
  refine va_astq hx hb hK hP hD hS 3 2 13 9 rfl rfl rfl rfl (by unfold vp_in; decide) dX10_init_104 (fun H locs hP hD hS => ?_)
  obtain ⟨g_147, eg_147⟩ : ∃ y : Nat → Option Nat, y = va_up g_106 (2 : Int32).toNatClampNeg (some q_137) := ⟨_, rfl⟩
  have hP : va_P (dC, dI) vwCl [(h0, .inr (10, [.ref q_13, .int 0, .ref q_15, .ref q_17, .ref q_19, .ref q_26])), (q_13, .inl (cA_14, 20, .inr (.inr (.inr (.inr (fun _ => none)))))), (q_15, .inl (cA_16, 8, .inl (fun _ => 0))), (q_17, .inl (cA_18, 4, .inr (.inr (.inr (.inr g_147))))), (q_26, .inl (cA_27, 60, .inl (fun _ => 0))), (q_58, .inl (k_60, nn_59, .inl f_61)), (q_56, .inr (9, [.int 0, .int 0, .ref q_58])), (q_98, .inl (k_100, nn_99, .inl f_101)), (q_96, .inr (9, [.int 1, .int 0, .ref q_98])), (q_19, .inr (8, [.ref q_21, .int (nI cl_126), .ref q_22, .int (nI ol_127), .int j_128, .int j_129, .int j_130, .int j_131])), (q_21, .inl (k_23, 60, .inl f_132)), (q_22, .inl (k_24, 60, .inl g_133)), (q_139, .inl (k_141, nn_140, .inl f_142)), (q_137, .inr (9, [.int 2, .int 0, .ref q_139]))] H := by rw [eg_147]; exact hP
  have hD : va_D A [(h0, .inr (10, [.ref q_13, .int 0, .ref q_15, .ref q_17, .ref q_19, .ref q_26])), (q_13, .inl (cA_14, 20, .inr (.inr (.inr (.inr (fun _ => none)))))), (q_15, .inl (cA_16, 8, .inl (fun _ => 0))), (q_17, .inl (cA_18, 4, .inr (.inr (.inr (.inr g_147))))), (q_26, .inl (cA_27, 60, .inl (fun _ => 0))), (q_58, .inl (k_60, nn_59, .inl f_61)), (q_56, .inr (9, [.int 0, .int 0, .ref q_58])), (q_98, .inl (k_100, nn_99, .inl f_101)), (q_96, .inr (9, [.int 1, .int 0, .ref q_98])), (q_19, .inr (8, [.ref q_21, .int (nI cl_126), .ref q_22, .int (nI ol_127), .int j_128, .int j_129, .int j_130, .int j_131])), (q_21, .inl (k_23, 60, .inl f_132)), (q_22, .inl (k_24, 60, .inl g_133)), (q_139, .inl (k_141, nn_140, .inl f_142)), (q_137, .inr (9, [.int 2, .int 0, .ref q_139]))] := by rw [eg_147]; exact hD
  have hga_148 : g_147 0 = some q_56 := by rw [eg_147]; exact (if_neg (by decide)).trans hga_107
  have hga_149 : g_147 1 = some q_96 := by rw [eg_147]; exact (if_neg (by decide)).trans hga_108
  have hga_150 : g_147 2 = some q_137 := by rw [eg_147]; exact if_pos (by decide)
  refine lv_iinc (v := 3) (lv' := [(1, .int 3), (2, .ref q_115), (0, .ref h0)]) hx hb dX10_init_105 hl (k := 1) rfl (by decide) (by decide) rfl (fun ls hl => ?_)
  refine lv_goto (tgt := 55) hx hb dX10_init_108 (by decide) ?_
  refine lv_iload_n hx hb dX10_init_55 rfl (lv_at hl 0 rfl) ?_
  refine lv_iconst (v := 4) hx hb dX10_init_56 (by decide) ?_
  refine lv_icmp_ge (tgt := 111) hx hb dX10_init_57 (by decide) (fun c_151 => absurd c_151 (by decide)) (fun c_151 => ?_)
  refine lv_iload_n hx hb dX10_init_60 rfl (lv_at hl 0 rfl) ?_
  have hPc := hP.sub (ws' := []) [] rfl
  have hDc := hD.sub (ws' := []) [] (by decide) rfl
  have hKc := hK.sub (tys' := []) [] rfl
  have hFc := va_free (wc := []) hD hS hA [] rfl
  refine va_callr (va_runS (As := [.int 3]) (rest := []) ⟨hx, hb, hml, hown, hts⟩ (o_c_textAtFirst l dC dI ad av H.size 3 ) (va_cwS 1 hts (gi_3 (List.mem_cons_of_mem _ (List.mem_append_left _ (List.mem_of_getElem? (i := 15) rfl))) (List.mem_cons_of_mem _ (List.mem_append_left _ (List.mem_of_getElem? (i := 16) rfl))) (List.mem_cons_of_mem _ (List.mem_append_left _ (List.mem_of_getElem? (i := 17) rfl))) (fun _ hh => (List.mem_cons_of_mem _ (List.mem_append_right _ (List.mem_append_right _ (List.mem_append_right _ (List.mem_append_right _ (List.mem_append_left _ hh))))))) gd_o_c_textAtFirst) rfl rfl rfl (by decide +kernel) ⟨Nat.le_of_ble_eq_true rfl, Nat.le_of_ble_eq_true rfl⟩) ⟨pr_blind, pr_use hPc hKc hDc hFc hS hM⟩ rfl rfl hl.1 rfl (lv_room (Nat.le_of_ble_eq_true rfl)) dX10_init_61 ⟨Nat.le_of_ble_eq_true rfl, Nat.le_of_ble_eq_true rfl⟩) hS (fun q _ h => hFc q h) hFc (fun u r_152 t H locs ht hvm hw hB hz1 hk1 hS => ?_)
  refine W.widen (k := 16) (n := 478) (Nat.le_of_ble_eq_true rfl) (Nat.le_of_ble_eq_true rfl) ?_
  obtain ⟨i_153, hre_154, hf_155, hP1, hK1, hD1⟩ := hB
  rw [hre_154]
  rw [ht] at hP1
  have hK1 := va_K.moved hvm.symm hK1
  obtain ⟨hP, hD⟩ := va_join (wr := [(h0, .inr (10, [.ref q_13, .int 0, .ref q_15, .ref q_17, .ref q_19, .ref q_26])), (q_13, .inl (cA_14, 20, .inr (.inr (.inr (.inr (fun _ => none)))))), (q_15, .inl (cA_16, 8, .inl (fun _ => 0))), (q_17, .inl (cA_18, 4, .inr (.inr (.inr (.inr g_147))))), (q_26, .inl (cA_27, 60, .inl (fun _ => 0))), (q_58, .inl (k_60, nn_59, .inl f_61)), (q_56, .inr (9, [.int 0, .int 0, .ref q_58])), (q_98, .inl (k_100, nn_99, .inl f_101)), (q_96, .inr (9, [.int 1, .int 0, .ref q_98])), (q_19, .inr (8, [.ref q_21, .int (nI cl_126), .ref q_22, .int (nI ol_127), .int j_128, .int j_129, .int j_130, .int j_131])), (q_21, .inl (k_23, 60, .inl f_132)), (q_22, .inl (k_24, 60, .inl g_133)), (q_139, .inl (k_141, nn_140, .inl f_142)), (q_137, .inr (9, [.int 2, .int 0, .ref q_139]))]) (w1 := []) hP hD [] [0, 1, 2, 3, 4, 5, 6, 7, 8, 9, 10, 11, 12, 13] rfl rfl (by decide) (by decide) hk1 hFc hP1 hD1
  have hK := (hK.sub (tys' := [(cA_14, .object RX9), (cA_16, .int), (cA_18, .object RX9), (cA_27, .int), (k_60, .int), (k_100, .int), (k_23, .int), (k_24, .char), (k_141, .int)]) [0, 1, 2, 3, 4, 5, 6, 7, 8] rfl).app hK1
  have hP : va_P (dC, dI) vwCl [(h0, .inr (10, [.ref q_13, .int 0, .ref q_15, .ref q_17, .ref q_19, .ref q_26])), (q_13, .inl (cA_14, 20, .inr (.inr (.inr (.inr (fun _ => none)))))), (q_15, .inl (cA_16, 8, .inl (fun _ => 0))), (q_17, .inl (cA_18, 4, .inr (.inr (.inr (.inr g_147))))), (q_26, .inl (cA_27, 60, .inl (fun _ => 0))), (q_58, .inl (k_60, nn_59, .inl f_61)), (q_56, .inr (9, [.int 0, .int 0, .ref q_58])), (q_98, .inl (k_100, nn_99, .inl f_101)), (q_96, .inr (9, [.int 1, .int 0, .ref q_98])), (q_19, .inr (8, [.ref q_21, .int (nI cl_126), .ref q_22, .int (nI ol_127), .int j_128, .int j_129, .int j_130, .int j_131])), (q_21, .inl (k_23, 60, .inl f_132)), (q_22, .inl (k_24, 60, .inl g_133)), (q_139, .inl (k_141, nn_140, .inl f_142)), (q_137, .inr (9, [.int 2, .int 0, .ref q_139]))] H := hP
  have hD : va_D A [(h0, .inr (10, [.ref q_13, .int 0, .ref q_15, .ref q_17, .ref q_19, .ref q_26])), (q_13, .inl (cA_14, 20, .inr (.inr (.inr (.inr (fun _ => none)))))), (q_15, .inl (cA_16, 8, .inl (fun _ => 0))), (q_17, .inl (cA_18, 4, .inr (.inr (.inr (.inr g_147))))), (q_26, .inl (cA_27, 60, .inl (fun _ => 0))), (q_58, .inl (k_60, nn_59, .inl f_61)), (q_56, .inr (9, [.int 0, .int 0, .ref q_58])), (q_98, .inl (k_100, nn_99, .inl f_101)), (q_96, .inr (9, [.int 1, .int 0, .ref q_98])), (q_19, .inr (8, [.ref q_21, .int (nI cl_126), .ref q_22, .int (nI ol_127), .int j_128, .int j_129, .int j_130, .int j_131])), (q_21, .inl (k_23, 60, .inl f_132)), (q_22, .inl (k_24, 60, .inl g_133)), (q_139, .inl (k_141, nn_140, .inl f_142)), (q_137, .inr (9, [.int 2, .int 0, .ref q_139]))] := hD
  have hK : va_K (dC, dI) vwCl [(cA_14, .object RX9), (cA_16, .int), (cA_18, .object RX9), (cA_27, .int), (k_60, .int), (k_100, .int), (k_23, .int), (k_24, .char), (k_141, .int)] s := hK
  have hPc := hP.sub (ws' := []) [] rfl
  have hDc := hD.sub (ws' := []) [] (by decide) rfl
  have hKc := hK.sub (tys' := []) [] rfl
  have hFc := va_free (wc := []) hD hS hA [] rfl
  refine va_callr (va_runV (As := []) (rest := []) ⟨hx, hb, hml, hown, hts⟩ (j_toCharArray l dC dI ad av H.size i_153 (by omega)) (cwV 0 hts (gi_4 (List.mem_cons_of_mem _ (List.mem_append_left _ (List.mem_of_getElem? (i := 18) rfl))) (List.mem_cons_of_mem _ (List.mem_append_left _ (List.mem_of_getElem? (i := 19) rfl))) (List.mem_cons_of_mem _ (List.mem_append_left _ (List.mem_of_getElem? (i := 20) rfl))) (List.mem_cons_of_mem _ (List.mem_append_left _ (List.mem_of_getElem? (i := 21) rfl))) (fun _ hh => (List.mem_cons_of_mem _ (List.mem_append_right _ (List.mem_append_right _ (List.mem_append_right _ (List.mem_append_right _ (List.mem_append_right _ (List.mem_append_left _ hh)))))))) gd_j_toCharArray) rfl rfl rfl (by decide +kernel) ⟨Nat.le_of_ble_eq_true rfl, Nat.le_of_ble_eq_true rfl⟩) ⟨pr_blind, (st_recv (st_at hM i_153 (by omega)) hS), pr_use hPc hKc hDc hFc hS hM⟩ rfl rfl hl.1 rfl (lv_room (Nat.le_of_ble_eq_true rfl)) dX10_init_64 ⟨Nat.le_of_ble_eq_true rfl, Nat.le_of_ble_eq_true rfl⟩) hS (fun q _ h => hFc q h) hFc (fun u r_156 t H locs ht hvm hw hB hz1 hk1 hS => ?_)
  refine W.widen (k := 17) (n := 501) (Nat.le_of_ble_eq_true rfl) (Nat.le_of_ble_eq_true rfl) ?_
  obtain ⟨q_157, k_158, f_159, hre_160, hP1, hK1, hD1⟩ := hB
  rw [hre_160]
  rw [ht] at hP1
  have hK1 := va_K.moved hvm.symm hK1
  obtain ⟨hP, hD⟩ := va_join (wr := [(h0, .inr (10, [.ref q_13, .int 0, .ref q_15, .ref q_17, .ref q_19, .ref q_26])), (q_13, .inl (cA_14, 20, .inr (.inr (.inr (.inr (fun _ => none)))))), (q_15, .inl (cA_16, 8, .inl (fun _ => 0))), (q_17, .inl (cA_18, 4, .inr (.inr (.inr (.inr g_147))))), (q_26, .inl (cA_27, 60, .inl (fun _ => 0))), (q_58, .inl (k_60, nn_59, .inl f_61)), (q_56, .inr (9, [.int 0, .int 0, .ref q_58])), (q_98, .inl (k_100, nn_99, .inl f_101)), (q_96, .inr (9, [.int 1, .int 0, .ref q_98])), (q_19, .inr (8, [.ref q_21, .int (nI cl_126), .ref q_22, .int (nI ol_127), .int j_128, .int j_129, .int j_130, .int j_131])), (q_21, .inl (k_23, 60, .inl f_132)), (q_22, .inl (k_24, 60, .inl g_133)), (q_139, .inl (k_141, nn_140, .inl f_142)), (q_137, .inr (9, [.int 2, .int 0, .ref q_139]))]) (w1 := [(q_157, .inl (k_158, sL i_153, .inl f_159))]) hP hD [] [0, 1, 2, 3, 4, 5, 6, 7, 8, 9, 10, 11, 12, 13] rfl rfl (by decide) (by decide) hk1 hFc hP1 hD1
  have hK := (hK.sub (tys' := [(cA_14, .object RX9), (cA_16, .int), (cA_18, .object RX9), (cA_27, .int), (k_60, .int), (k_100, .int), (k_23, .int), (k_24, .char), (k_141, .int)]) [0, 1, 2, 3, 4, 5, 6, 7, 8] rfl).app hK1
  have hP : va_P (dC, dI) vwCl [(h0, .inr (10, [.ref q_13, .int 0, .ref q_15, .ref q_17, .ref q_19, .ref q_26])), (q_13, .inl (cA_14, 20, .inr (.inr (.inr (.inr (fun _ => none)))))), (q_15, .inl (cA_16, 8, .inl (fun _ => 0))), (q_17, .inl (cA_18, 4, .inr (.inr (.inr (.inr g_147))))), (q_26, .inl (cA_27, 60, .inl (fun _ => 0))), (q_58, .inl (k_60, nn_59, .inl f_61)), (q_56, .inr (9, [.int 0, .int 0, .ref q_58])), (q_98, .inl (k_100, nn_99, .inl f_101)), (q_96, .inr (9, [.int 1, .int 0, .ref q_98])), (q_19, .inr (8, [.ref q_21, .int (nI cl_126), .ref q_22, .int (nI ol_127), .int j_128, .int j_129, .int j_130, .int j_131])), (q_21, .inl (k_23, 60, .inl f_132)), (q_22, .inl (k_24, 60, .inl g_133)), (q_139, .inl (k_141, nn_140, .inl f_142)), (q_137, .inr (9, [.int 2, .int 0, .ref q_139])), (q_157, .inl (k_158, sL i_153, .inl f_159))] H := hP
  have hD : va_D A [(h0, .inr (10, [.ref q_13, .int 0, .ref q_15, .ref q_17, .ref q_19, .ref q_26])), (q_13, .inl (cA_14, 20, .inr (.inr (.inr (.inr (fun _ => none)))))), (q_15, .inl (cA_16, 8, .inl (fun _ => 0))), (q_17, .inl (cA_18, 4, .inr (.inr (.inr (.inr g_147))))), (q_26, .inl (cA_27, 60, .inl (fun _ => 0))), (q_58, .inl (k_60, nn_59, .inl f_61)), (q_56, .inr (9, [.int 0, .int 0, .ref q_58])), (q_98, .inl (k_100, nn_99, .inl f_101)), (q_96, .inr (9, [.int 1, .int 0, .ref q_98])), (q_19, .inr (8, [.ref q_21, .int (nI cl_126), .ref q_22, .int (nI ol_127), .int j_128, .int j_129, .int j_130, .int j_131])), (q_21, .inl (k_23, 60, .inl f_132)), (q_22, .inl (k_24, 60, .inl g_133)), (q_139, .inl (k_141, nn_140, .inl f_142)), (q_137, .inr (9, [.int 2, .int 0, .ref q_139])), (q_157, .inl (k_158, sL i_153, .inl f_159))] := hD
  have hK : va_K (dC, dI) vwCl [(cA_14, .object RX9), (cA_16, .int), (cA_18, .object RX9), (cA_27, .int), (k_60, .int), (k_100, .int), (k_23, .int), (k_24, .char), (k_141, .int), (k_158, .char)] s := hK
  refine lv_astore_n (lv' := [(2, .ref q_157), (1, .int 3), (0, .ref h0)]) hx hb dX10_init_67 rfl hl (by decide) rfl (fun ls hl => ?_)
  refine lv_aload_n hx hb dX10_init_68 rfl (lv_at hl 2 rfl) ?_
  refine va_get (D := (dC, dI)) (ci := 10) (v := .ref q_19) (C := RX10) (T := TX10) (N := 6) hx hb hts (fun _ hh => (List.mem_cons_of_mem _ (List.mem_append_right _ (List.mem_append_left _ hh)))) hown hK hP 0 rfl rfl 4 (by decide) (hts (.fieldLink RX10 31 "TypingPool$Rules" "reader" "LTypingPool$Reader;") (List.mem_cons_of_mem _ (List.mem_append_left _ (List.mem_of_getElem? (i := 13) rfl)))) (fun _ h9 => h9) rfl dX10_init_69 ?_
  refine lv_aload_n hx hb dX10_init_72 rfl (lv_at hl 0 rfl) ?_
  refine lv_aload_n hx hb dX10_init_73 rfl (lv_at hl 0 rfl) ?_
  refine va_alen (v := nI (sL i_153)) hx hb hK hP 14 9 rfl rfl rfl dX10_init_74 ?_
  refine lv_iload_n hx hb dX10_init_75 rfl (lv_at hl 1 rfl) ?_
  have hPc := hP.sub (ws' := []) [] rfl
  have hDc := hD.sub (ws' := []) [] (by decide) rfl
  have hKc := hK.sub (tys' := []) [] rfl
  have hFc := va_free (wc := []) hD hS hA [] rfl
  refine va_callr (va_runS (As := [.int 3]) (rest := [.int (nI (sL i_153)), .ref q_157, .ref q_19]) ⟨hx, hb, hml, hown, hts⟩ (o_c_lettersOf l dC dI ad av H.size 3 ) (va_cwS 1 hts (gi_3 (List.mem_cons_of_mem _ (List.mem_append_left _ (List.mem_of_getElem? (i := 22) rfl))) (List.mem_cons_of_mem _ (List.mem_append_left _ (List.mem_of_getElem? (i := 23) rfl))) (List.mem_cons_of_mem _ (List.mem_append_left _ (List.mem_of_getElem? (i := 17) rfl))) (fun _ hh => (List.mem_cons_of_mem _ (List.mem_append_right _ (List.mem_append_right _ (List.mem_append_right _ (List.mem_append_right _ (List.mem_append_right _ (List.mem_append_right _ (List.mem_append_left _ hh))))))))) gd_o_c_lettersOf) rfl rfl rfl (by decide +kernel) ⟨Nat.le_of_ble_eq_true rfl, Nat.le_of_ble_eq_true rfl⟩) ⟨pr_blind, pr_use hPc hKc hDc hFc hS hM⟩ rfl rfl hl.1 rfl (lv_room (Nat.le_of_ble_eq_true rfl)) dX10_init_76 ⟨Nat.le_of_ble_eq_true rfl, Nat.le_of_ble_eq_true rfl⟩) hS (fun q _ h => hFc q h) hFc (fun u r_161 t H locs ht hvm hw hB hz1 hk1 hS => ?_)
  refine W.widen (k := 17) (n := 501) (Nat.le_of_ble_eq_true rfl) (Nat.le_of_ble_eq_true rfl) ?_
  obtain ⟨i_162, hre_163, hf_164, hf_165, hP1, hK1, hD1⟩ := hB
  rw [hre_163]
  rw [ht] at hP1
  have hK1 := va_K.moved hvm.symm hK1
  obtain ⟨hP, hD⟩ := va_join (wr := [(h0, .inr (10, [.ref q_13, .int 0, .ref q_15, .ref q_17, .ref q_19, .ref q_26])), (q_13, .inl (cA_14, 20, .inr (.inr (.inr (.inr (fun _ => none)))))), (q_15, .inl (cA_16, 8, .inl (fun _ => 0))), (q_17, .inl (cA_18, 4, .inr (.inr (.inr (.inr g_147))))), (q_26, .inl (cA_27, 60, .inl (fun _ => 0))), (q_58, .inl (k_60, nn_59, .inl f_61)), (q_56, .inr (9, [.int 0, .int 0, .ref q_58])), (q_98, .inl (k_100, nn_99, .inl f_101)), (q_96, .inr (9, [.int 1, .int 0, .ref q_98])), (q_19, .inr (8, [.ref q_21, .int (nI cl_126), .ref q_22, .int (nI ol_127), .int j_128, .int j_129, .int j_130, .int j_131])), (q_21, .inl (k_23, 60, .inl f_132)), (q_22, .inl (k_24, 60, .inl g_133)), (q_139, .inl (k_141, nn_140, .inl f_142)), (q_137, .inr (9, [.int 2, .int 0, .ref q_139])), (q_157, .inl (k_158, sL i_153, .inl f_159))]) (w1 := []) hP hD [] [0, 1, 2, 3, 4, 5, 6, 7, 8, 9, 10, 11, 12, 13, 14] rfl rfl (by decide) (by decide) hk1 hFc hP1 hD1
  have hK := (hK.sub (tys' := [(cA_14, .object RX9), (cA_16, .int), (cA_18, .object RX9), (cA_27, .int), (k_60, .int), (k_100, .int), (k_23, .int), (k_24, .char), (k_141, .int), (k_158, .char)]) [0, 1, 2, 3, 4, 5, 6, 7, 8, 9] rfl).app hK1
  have hP : va_P (dC, dI) vwCl [(h0, .inr (10, [.ref q_13, .int 0, .ref q_15, .ref q_17, .ref q_19, .ref q_26])), (q_13, .inl (cA_14, 20, .inr (.inr (.inr (.inr (fun _ => none)))))), (q_15, .inl (cA_16, 8, .inl (fun _ => 0))), (q_17, .inl (cA_18, 4, .inr (.inr (.inr (.inr g_147))))), (q_26, .inl (cA_27, 60, .inl (fun _ => 0))), (q_58, .inl (k_60, nn_59, .inl f_61)), (q_56, .inr (9, [.int 0, .int 0, .ref q_58])), (q_98, .inl (k_100, nn_99, .inl f_101)), (q_96, .inr (9, [.int 1, .int 0, .ref q_98])), (q_19, .inr (8, [.ref q_21, .int (nI cl_126), .ref q_22, .int (nI ol_127), .int j_128, .int j_129, .int j_130, .int j_131])), (q_21, .inl (k_23, 60, .inl f_132)), (q_22, .inl (k_24, 60, .inl g_133)), (q_139, .inl (k_141, nn_140, .inl f_142)), (q_137, .inr (9, [.int 2, .int 0, .ref q_139])), (q_157, .inl (k_158, sL i_153, .inl f_159))] H := hP
  have hD : va_D A [(h0, .inr (10, [.ref q_13, .int 0, .ref q_15, .ref q_17, .ref q_19, .ref q_26])), (q_13, .inl (cA_14, 20, .inr (.inr (.inr (.inr (fun _ => none)))))), (q_15, .inl (cA_16, 8, .inl (fun _ => 0))), (q_17, .inl (cA_18, 4, .inr (.inr (.inr (.inr g_147))))), (q_26, .inl (cA_27, 60, .inl (fun _ => 0))), (q_58, .inl (k_60, nn_59, .inl f_61)), (q_56, .inr (9, [.int 0, .int 0, .ref q_58])), (q_98, .inl (k_100, nn_99, .inl f_101)), (q_96, .inr (9, [.int 1, .int 0, .ref q_98])), (q_19, .inr (8, [.ref q_21, .int (nI cl_126), .ref q_22, .int (nI ol_127), .int j_128, .int j_129, .int j_130, .int j_131])), (q_21, .inl (k_23, 60, .inl f_132)), (q_22, .inl (k_24, 60, .inl g_133)), (q_139, .inl (k_141, nn_140, .inl f_142)), (q_137, .inr (9, [.int 2, .int 0, .ref q_139])), (q_157, .inl (k_158, sL i_153, .inl f_159))] := hD
  have hK : va_K (dC, dI) vwCl [(cA_14, .object RX9), (cA_16, .int), (cA_18, .object RX9), (cA_27, .int), (k_60, .int), (k_100, .int), (k_23, .int), (k_24, .char), (k_141, .int), (k_158, .char)] s := hK
  have hPc := hP.sub (ws' := [(q_19, .inr (8, [.ref q_21, .int (nI cl_126), .ref q_22, .int (nI ol_127), .int j_128, .int j_129, .int j_130, .int j_131])), (q_21, .inl (k_23, 60, .inl f_132)), (q_22, .inl (k_24, 60, .inl g_133)), (q_157, .inl (k_158, (sL i_153), .inl f_159))]) [9, 10, 11, 14] rfl
  have hDc := hD.sub (ws' := [(q_19, .inr (8, [.ref q_21, .int (nI cl_126), .ref q_22, .int (nI ol_127), .int j_128, .int j_129, .int j_130, .int j_131])), (q_21, .inl (k_23, 60, .inl f_132)), (q_22, .inl (k_24, 60, .inl g_133)), (q_157, .inl (k_158, (sL i_153), .inl f_159))]) [9, 10, 11, 14] (by decide) rfl
  have hKc := hK.sub (tys' := [(k_23, .int), (k_24, .char), (k_158, .char)]) [6, 7, 9] rfl
  have hFc := va_free (wc := [(q_19, .inr (8, [.ref q_21, .int (nI cl_126), .ref q_22, .int (nI ol_127), .int j_128, .int j_129, .int j_130, .int j_131])), (q_21, .inl (k_23, 60, .inl f_132)), (q_22, .inl (k_24, 60, .inl g_133)), (q_157, .inl (k_158, (sL i_153), .inl f_159))]) hD hS hA [9, 10, 11, 14] rfl
  refine va_calli (va_runV (As := [.ref q_157, .int (nI (sL i_153)), .ref (ad i_162)]) (rest := []) ⟨hx, hb, hml, hown, hts⟩ (o_r_read l dC dI ad av H.size q_19 q_21 q_22 q_157 (sL i_153) k_23 k_24 k_158 f_132 g_133 f_159 (nI cl_126) (nI ol_127) j_128 j_129 j_130 j_131 i_162 (sL_le i_153) (by omega)) (cwV 3 hts (gi_4 (List.mem_cons_of_mem _ (List.mem_append_left _ (List.mem_of_getElem? (i := 24) rfl))) (List.mem_cons_of_mem _ (List.mem_append_left _ (List.mem_of_getElem? (i := 25) rfl))) (List.mem_cons_of_mem _ (List.mem_append_left _ (List.mem_of_getElem? (i := 26) rfl))) (List.mem_cons_of_mem _ (List.mem_append_left _ (List.mem_of_getElem? (i := 11) rfl))) (fun _ hh => (List.mem_cons_of_mem _ (List.mem_append_right _ (List.mem_append_right _ (List.mem_append_right _ (List.mem_append_right _ (List.mem_append_right _ (List.mem_append_right _ (List.mem_append_right _ (List.mem_append_left _ hh)))))))))) gd_o_r_read) rfl rfl rfl (by decide +kernel) ⟨Nat.le_of_ble_eq_true rfl, Nat.le_of_ble_eq_true rfl⟩) ⟨pr_blind, va_recv hKc hPc (ci := 8) (q0 := 0) rfl rfl, pr_use hPc hKc hDc hFc hS hM⟩ rfl rfl hl.1 rfl (lv_room (Nat.le_of_ble_eq_true rfl)) dX10_init_79 ⟨Nat.le_of_ble_eq_true rfl, Nat.le_of_ble_eq_true rfl⟩) hS (fun q _ h => hFc q h) hFc (fun r_166 u t H locs ht hvm hw hB hz1 hk1 hS => ?_)
  refine W.widen (k := 17) (n := 501) (Nat.le_of_ble_eq_true rfl) (Nat.le_of_ble_eq_true rfl) ?_
  subst hw
  obtain ⟨r_167, cl_168, ol_169, j_170, j_171, j_172, j_173, f_174, g_175, hre_176, hf_177, hf_178, hP1, hK1, hD1⟩ := hB
  refine lq_top (v := r_167) hre_176 ?_
  rw [ht] at hP1
  have hK1 := va_K.moved hvm.symm hK1
  obtain ⟨hP, hD⟩ := va_join (wr := [(h0, .inr (10, [.ref q_13, .int 0, .ref q_15, .ref q_17, .ref q_19, .ref q_26])), (q_13, .inl (cA_14, 20, .inr (.inr (.inr (.inr (fun _ => none)))))), (q_15, .inl (cA_16, 8, .inl (fun _ => 0))), (q_17, .inl (cA_18, 4, .inr (.inr (.inr (.inr g_147))))), (q_26, .inl (cA_27, 60, .inl (fun _ => 0))), (q_58, .inl (k_60, nn_59, .inl f_61)), (q_56, .inr (9, [.int 0, .int 0, .ref q_58])), (q_98, .inl (k_100, nn_99, .inl f_101)), (q_96, .inr (9, [.int 1, .int 0, .ref q_98])), (q_139, .inl (k_141, nn_140, .inl f_142)), (q_137, .inr (9, [.int 2, .int 0, .ref q_139]))]) (w1 := [(q_19, .inr (8, [.ref q_21, .int (nI cl_168), .ref q_22, .int (nI ol_169), .int j_170, .int j_171, .int j_172, .int j_173])), (q_21, .inl (k_23, 60, .inl f_174)), (q_22, .inl (k_24, 60, .inl g_175))]) hP hD [9, 10, 11, 14] [0, 1, 2, 3, 4, 5, 6, 7, 8, 12, 13] rfl rfl (by decide) (by decide) hk1 hFc hP1 hD1
  have hK := (hK.sub (tys' := [(cA_14, .object RX9), (cA_16, .int), (cA_18, .object RX9), (cA_27, .int), (k_60, .int), (k_100, .int), (k_141, .int)]) [0, 1, 2, 3, 4, 5, 8] rfl).app hK1
  have hP : va_P (dC, dI) vwCl [(h0, .inr (10, [.ref q_13, .int 0, .ref q_15, .ref q_17, .ref q_19, .ref q_26])), (q_13, .inl (cA_14, 20, .inr (.inr (.inr (.inr (fun _ => none)))))), (q_15, .inl (cA_16, 8, .inl (fun _ => 0))), (q_17, .inl (cA_18, 4, .inr (.inr (.inr (.inr g_147))))), (q_26, .inl (cA_27, 60, .inl (fun _ => 0))), (q_58, .inl (k_60, nn_59, .inl f_61)), (q_56, .inr (9, [.int 0, .int 0, .ref q_58])), (q_98, .inl (k_100, nn_99, .inl f_101)), (q_96, .inr (9, [.int 1, .int 0, .ref q_98])), (q_139, .inl (k_141, nn_140, .inl f_142)), (q_137, .inr (9, [.int 2, .int 0, .ref q_139])), (q_19, .inr (8, [.ref q_21, .int (nI cl_168), .ref q_22, .int (nI ol_169), .int j_170, .int j_171, .int j_172, .int j_173])), (q_21, .inl (k_23, 60, .inl f_174)), (q_22, .inl (k_24, 60, .inl g_175))] H := hP
  have hD : va_D A [(h0, .inr (10, [.ref q_13, .int 0, .ref q_15, .ref q_17, .ref q_19, .ref q_26])), (q_13, .inl (cA_14, 20, .inr (.inr (.inr (.inr (fun _ => none)))))), (q_15, .inl (cA_16, 8, .inl (fun _ => 0))), (q_17, .inl (cA_18, 4, .inr (.inr (.inr (.inr g_147))))), (q_26, .inl (cA_27, 60, .inl (fun _ => 0))), (q_58, .inl (k_60, nn_59, .inl f_61)), (q_56, .inr (9, [.int 0, .int 0, .ref q_58])), (q_98, .inl (k_100, nn_99, .inl f_101)), (q_96, .inr (9, [.int 1, .int 0, .ref q_98])), (q_139, .inl (k_141, nn_140, .inl f_142)), (q_137, .inr (9, [.int 2, .int 0, .ref q_139])), (q_19, .inr (8, [.ref q_21, .int (nI cl_168), .ref q_22, .int (nI ol_169), .int j_170, .int j_171, .int j_172, .int j_173])), (q_21, .inl (k_23, 60, .inl f_174)), (q_22, .inl (k_24, 60, .inl g_175))] := hD
  have hK : va_K (dC, dI) vwCl [(cA_14, .object RX9), (cA_16, .int), (cA_18, .object RX9), (cA_27, .int), (k_60, .int), (k_100, .int), (k_141, .int), (k_23, .int), (k_24, .char)] s := hK
  refine lv_pop hx hb dX10_init_82 rfl ?_
  refine lv_aload_n hx hb dX10_init_83 rfl (lv_at hl 2 rfl) ?_
  refine va_get (D := (dC, dI)) (ci := 10) (v := .ref q_17) (C := RX10) (T := TX10) (N := 6) hx hb hts (fun _ hh => (List.mem_cons_of_mem _ (List.mem_append_right _ (List.mem_append_left _ hh)))) hown hK hP 0 rfl rfl 3 (by decide) (hts (.fieldLink RX10 25 "TypingPool$Rules" "atFirst" "[LTypingPool$Rule;") (List.mem_cons_of_mem _ (List.mem_append_left _ (List.mem_of_getElem? (i := 8) rfl)))) (fun _ h9 => h9) rfl dX10_init_84 ?_
  refine lv_iload_n hx hb dX10_init_87 rfl (lv_at hl 1 rfl) ?_
  refine va_new (ci := 9) (fs := [.int 0, .int 0, .null]) (C := RX9) (T := TX9) (N := 3) hx hb hts (fun _ hh => (List.mem_cons_of_mem _ (List.mem_append_right _ (List.mem_append_right _ (List.mem_append_right _ (List.mem_append_right _ (List.mem_append_right _ (List.mem_append_right _ (List.mem_append_right _ (List.mem_append_right _ (List.mem_append_left _ hh))))))))))) tyX9 tyX9_ok hown (hts (.classLink RX10 9 RX9) (List.mem_cons_of_mem _ (List.mem_append_left _ (List.mem_of_getElem? (i := 3) rfl)))) (hts (.instantiable RX9 3) (List.mem_cons_of_mem _ (List.mem_append_left _ (List.mem_of_getElem? (i := 27) rfl)))) (hts (.initialized RX9) (List.mem_cons_of_mem _ (List.mem_append_left _ (List.mem_of_getElem? (i := 28) rfl)))) hK hP hD hS hA rfl (fun j hj => by rcases (show j = 0 ∨ j = 1 ∨ j = 2 by omega) with rfl | rfl | rfl <;> rfl) (Nat.le_of_ble_eq_true rfl) (Nat.le_of_ble_eq_true rfl) dX10_init_88 (fun q_179 H hP hD hS => ?_)
  refine W.widen (k := 18) (n := 504) (Nat.le_of_ble_eq_true rfl) (by omega) ?_
  have hP : va_P (dC, dI) vwCl [(h0, .inr (10, [.ref q_13, .int 0, .ref q_15, .ref q_17, .ref q_19, .ref q_26])), (q_13, .inl (cA_14, 20, .inr (.inr (.inr (.inr (fun _ => none)))))), (q_15, .inl (cA_16, 8, .inl (fun _ => 0))), (q_17, .inl (cA_18, 4, .inr (.inr (.inr (.inr g_147))))), (q_26, .inl (cA_27, 60, .inl (fun _ => 0))), (q_58, .inl (k_60, nn_59, .inl f_61)), (q_56, .inr (9, [.int 0, .int 0, .ref q_58])), (q_98, .inl (k_100, nn_99, .inl f_101)), (q_96, .inr (9, [.int 1, .int 0, .ref q_98])), (q_139, .inl (k_141, nn_140, .inl f_142)), (q_137, .inr (9, [.int 2, .int 0, .ref q_139])), (q_19, .inr (8, [.ref q_21, .int (nI cl_168), .ref q_22, .int (nI ol_169), .int j_170, .int j_171, .int j_172, .int j_173])), (q_21, .inl (k_23, 60, .inl f_174)), (q_22, .inl (k_24, 60, .inl g_175)), (q_179, .inr (9, [.int 0, .int 0, .null]))] H := hP
  have hD : va_D A [(h0, .inr (10, [.ref q_13, .int 0, .ref q_15, .ref q_17, .ref q_19, .ref q_26])), (q_13, .inl (cA_14, 20, .inr (.inr (.inr (.inr (fun _ => none)))))), (q_15, .inl (cA_16, 8, .inl (fun _ => 0))), (q_17, .inl (cA_18, 4, .inr (.inr (.inr (.inr g_147))))), (q_26, .inl (cA_27, 60, .inl (fun _ => 0))), (q_58, .inl (k_60, nn_59, .inl f_61)), (q_56, .inr (9, [.int 0, .int 0, .ref q_58])), (q_98, .inl (k_100, nn_99, .inl f_101)), (q_96, .inr (9, [.int 1, .int 0, .ref q_98])), (q_139, .inl (k_141, nn_140, .inl f_142)), (q_137, .inr (9, [.int 2, .int 0, .ref q_139])), (q_19, .inr (8, [.ref q_21, .int (nI cl_168), .ref q_22, .int (nI ol_169), .int j_170, .int j_171, .int j_172, .int j_173])), (q_21, .inl (k_23, 60, .inl f_174)), (q_22, .inl (k_24, 60, .inl g_175)), (q_179, .inr (9, [.int 0, .int 0, .null]))] := hD
  refine lv_dup hx hb dX10_init_91 rfl ?_
  refine lv_iload_n hx hb dX10_init_92 rfl (lv_at hl 1 rfl) ?_
  refine lv_iconst (v := 0) hx hb dX10_init_93 (by decide) ?_
  refine lv_aload_n hx hb dX10_init_94 rfl (lv_at hl 2 rfl) ?_
  refine va_get (D := (dC, dI)) (ci := 10) (v := .ref q_19) (C := RX10) (T := TX10) (N := 6) hx hb hts (fun _ hh => (List.mem_cons_of_mem _ (List.mem_append_right _ (List.mem_append_left _ hh)))) hown hK hP 0 rfl rfl 4 (by decide) (hts (.fieldLink RX10 31 "TypingPool$Rules" "reader" "LTypingPool$Reader;") (List.mem_cons_of_mem _ (List.mem_append_left _ (List.mem_of_getElem? (i := 13) rfl)))) (fun _ h9 => h9) rfl dX10_init_95 ?_
  have hPc := hP.sub (ws' := [(q_19, .inr (8, [.ref q_21, .int (nI cl_168), .ref q_22, .int (nI ol_169), .int j_170, .int j_171, .int j_172, .int j_173])), (q_21, .inl (k_23, 60, .inl f_174)), (q_22, .inl (k_24, 60, .inl g_175))]) [11, 12, 13] rfl
  have hDc := hD.sub (ws' := [(q_19, .inr (8, [.ref q_21, .int (nI cl_168), .ref q_22, .int (nI ol_169), .int j_170, .int j_171, .int j_172, .int j_173])), (q_21, .inl (k_23, 60, .inl f_174)), (q_22, .inl (k_24, 60, .inl g_175))]) [11, 12, 13] (by decide) rfl
  have hKc := hK.sub (tys' := [(k_23, .int), (k_24, .char)]) [7, 8] rfl
  have hFc := va_free (wc := [(q_19, .inr (8, [.ref q_21, .int (nI cl_168), .ref q_22, .int (nI ol_169), .int j_170, .int j_171, .int j_172, .int j_173])), (q_21, .inl (k_23, 60, .inl f_174)), (q_22, .inl (k_24, 60, .inl g_175))]) hD hS hA [11, 12, 13] rfl
  refine va_callr (va_runV (As := []) (rest := [.int 0, .int 3, .ref q_179, .ref q_179, .int 3, .ref q_17]) ⟨hx, hb, hml, hown, hts⟩ (o_r_codeRead2 l dC dI ad av H.size q_19 q_21 q_22 cl_168 ol_169 k_23 k_24 f_174 g_175 j_170 j_171 j_172 j_173 hf_177 hf_178) (cwV 0 hts (gi_4 (List.mem_cons_of_mem _ (List.mem_append_left _ (List.mem_of_getElem? (i := 29) rfl))) (List.mem_cons_of_mem _ (List.mem_append_left _ (List.mem_of_getElem? (i := 30) rfl))) (List.mem_cons_of_mem _ (List.mem_append_left _ (List.mem_of_getElem? (i := 31) rfl))) (List.mem_cons_of_mem _ (List.mem_append_left _ (List.mem_of_getElem? (i := 11) rfl))) (fun _ hh => (List.mem_cons_of_mem _ (List.mem_append_right _ (List.mem_append_right _ (List.mem_append_right _ (List.mem_append_right _ (List.mem_append_right _ (List.mem_append_right _ (List.mem_append_right _ (List.mem_append_right _ (List.mem_append_right _ (List.mem_append_left _ hh)))))))))))) gd_o_r_codeRead2) rfl rfl rfl (by decide +kernel) ⟨Nat.le_of_ble_eq_true rfl, Nat.le_of_ble_eq_true rfl⟩) ⟨pr_blind, va_recv hKc hPc (ci := 8) (q0 := 0) rfl rfl, pr_use hPc hKc hDc hFc hS hM⟩ rfl rfl hl.1 rfl (lv_room (Nat.le_of_ble_eq_true rfl)) dX10_init_98 ⟨Nat.le_of_ble_eq_true rfl, Nat.le_of_ble_eq_true rfl⟩) hS (fun q _ h => hFc q h) hFc (fun u r_180 t H locs ht hvm hw hB hz1 hk1 hS => ?_)
  refine W.widen (k := 19) (n := 564) (Nat.le_of_ble_eq_true rfl) (Nat.le_of_ble_eq_true rfl) ?_
  obtain ⟨q_181, nn_182, k_183, f_184, hre_185, hf_186, hP1, hK1, hD1⟩ := hB
  rw [hre_185]
  rw [ht] at hP1
  have hK1 := va_K.moved hvm.symm hK1
  obtain ⟨hP, hD⟩ := va_join (wr := [(h0, .inr (10, [.ref q_13, .int 0, .ref q_15, .ref q_17, .ref q_19, .ref q_26])), (q_13, .inl (cA_14, 20, .inr (.inr (.inr (.inr (fun _ => none)))))), (q_15, .inl (cA_16, 8, .inl (fun _ => 0))), (q_17, .inl (cA_18, 4, .inr (.inr (.inr (.inr g_147))))), (q_26, .inl (cA_27, 60, .inl (fun _ => 0))), (q_58, .inl (k_60, nn_59, .inl f_61)), (q_56, .inr (9, [.int 0, .int 0, .ref q_58])), (q_98, .inl (k_100, nn_99, .inl f_101)), (q_96, .inr (9, [.int 1, .int 0, .ref q_98])), (q_139, .inl (k_141, nn_140, .inl f_142)), (q_137, .inr (9, [.int 2, .int 0, .ref q_139])), (q_179, .inr (9, [.int 0, .int 0, .null]))]) (w1 := [(q_19, .inr (8, [.ref q_21, .int (nI cl_168), .ref q_22, .int (nI ol_169), .int j_170, .int j_171, .int j_172, .int j_173])), (q_21, .inl (k_23, 60, .inl f_174)), (q_22, .inl (k_24, 60, .inl g_175)), (q_181, .inl (k_183, nn_182, .inl f_184))]) hP hD [11, 12, 13] [0, 1, 2, 3, 4, 5, 6, 7, 8, 9, 10, 14] rfl rfl (by decide) (by decide) hk1 hFc hP1 hD1
  have hK := (hK.sub (tys' := [(cA_14, .object RX9), (cA_16, .int), (cA_18, .object RX9), (cA_27, .int), (k_60, .int), (k_100, .int), (k_141, .int)]) [0, 1, 2, 3, 4, 5, 6] rfl).app hK1
  have hP : va_P (dC, dI) vwCl [(h0, .inr (10, [.ref q_13, .int 0, .ref q_15, .ref q_17, .ref q_19, .ref q_26])), (q_13, .inl (cA_14, 20, .inr (.inr (.inr (.inr (fun _ => none)))))), (q_15, .inl (cA_16, 8, .inl (fun _ => 0))), (q_17, .inl (cA_18, 4, .inr (.inr (.inr (.inr g_147))))), (q_26, .inl (cA_27, 60, .inl (fun _ => 0))), (q_58, .inl (k_60, nn_59, .inl f_61)), (q_56, .inr (9, [.int 0, .int 0, .ref q_58])), (q_98, .inl (k_100, nn_99, .inl f_101)), (q_96, .inr (9, [.int 1, .int 0, .ref q_98])), (q_139, .inl (k_141, nn_140, .inl f_142)), (q_137, .inr (9, [.int 2, .int 0, .ref q_139])), (q_179, .inr (9, [.int 0, .int 0, .null])), (q_19, .inr (8, [.ref q_21, .int (nI cl_168), .ref q_22, .int (nI ol_169), .int j_170, .int j_171, .int j_172, .int j_173])), (q_21, .inl (k_23, 60, .inl f_174)), (q_22, .inl (k_24, 60, .inl g_175)), (q_181, .inl (k_183, nn_182, .inl f_184))] H := hP
  have hD : va_D A [(h0, .inr (10, [.ref q_13, .int 0, .ref q_15, .ref q_17, .ref q_19, .ref q_26])), (q_13, .inl (cA_14, 20, .inr (.inr (.inr (.inr (fun _ => none)))))), (q_15, .inl (cA_16, 8, .inl (fun _ => 0))), (q_17, .inl (cA_18, 4, .inr (.inr (.inr (.inr g_147))))), (q_26, .inl (cA_27, 60, .inl (fun _ => 0))), (q_58, .inl (k_60, nn_59, .inl f_61)), (q_56, .inr (9, [.int 0, .int 0, .ref q_58])), (q_98, .inl (k_100, nn_99, .inl f_101)), (q_96, .inr (9, [.int 1, .int 0, .ref q_98])), (q_139, .inl (k_141, nn_140, .inl f_142)), (q_137, .inr (9, [.int 2, .int 0, .ref q_139])), (q_179, .inr (9, [.int 0, .int 0, .null])), (q_19, .inr (8, [.ref q_21, .int (nI cl_168), .ref q_22, .int (nI ol_169), .int j_170, .int j_171, .int j_172, .int j_173])), (q_21, .inl (k_23, 60, .inl f_174)), (q_22, .inl (k_24, 60, .inl g_175)), (q_181, .inl (k_183, nn_182, .inl f_184))] := hD
  have hK : va_K (dC, dI) vwCl [(cA_14, .object RX9), (cA_16, .int), (cA_18, .object RX9), (cA_27, .int), (k_60, .int), (k_100, .int), (k_141, .int), (k_23, .int), (k_24, .char), (k_183, .int)] s := hK
  have hPc := hP.sub (ws' := [(q_179, .inr (9, [.int 0, .int 0, .null]))]) [11] rfl
  have hDc := hD.sub (ws' := [(q_179, .inr (9, [.int 0, .int 0, .null]))]) [11] (by decide) rfl
  have hKc := hK.sub (tys' := []) [] rfl
  have hFc := va_free (wc := [(q_179, .inr (9, [.int 0, .int 0, .null]))]) hD hS hA [11] rfl
  refine va_callv (va_runI (As := [.int 3, .int 0, .ref q_181]) (rest := [.ref q_179, .int 3, .ref q_17]) ⟨hx, hb, hml, hown, hts⟩ (o_c_Rule_init l dC dI ad av H.size q_179 q_181 3 0 ) (cwI 3 hts (gi_0  (fun _ hh => (List.mem_cons_of_mem _ (List.mem_append_right _ (List.mem_append_right _ (List.mem_append_right _ (List.mem_append_right _ (List.mem_append_right _ (List.mem_append_right _ (List.mem_append_right _ (List.mem_append_right _ (List.mem_append_right _ (List.mem_append_right _ (List.mem_append_left _ hh))))))))))))) gd_o_c_Rule_init) rfl rfl rfl (hts (.initialized RX9) (List.mem_cons_of_mem _ (List.mem_append_left _ (List.mem_of_getElem? (i := 28) rfl)))) (hts (.methodLink RX10 59 yX9_init) (List.mem_cons_of_mem _ (List.mem_append_left _ (List.mem_of_getElem? (i := 33) rfl)))) (hts (.instanceMethod yX9_init) (List.mem_cons_of_mem _ (List.mem_append_left _ (List.mem_of_getElem? (i := 32) rfl)))) rfl (by decide +kernel) ⟨Nat.le_of_ble_eq_true rfl, Nat.le_of_ble_eq_true rfl⟩) ⟨pr_blind, pr_use hPc hKc hDc hFc hS hM⟩ rfl rfl hl.1 rfl (lv_room (Nat.le_of_ble_eq_true rfl)) dX10_init_101 ⟨Nat.le_of_ble_eq_true rfl, Nat.le_of_ble_eq_true rfl⟩) hS (fun q _ h => hFc q h) hFc (fun u t H locs ht hvm hw hB hz1 hk1 hS => ?_)
  refine W.widen (k := 19) (n := 564) (Nat.le_of_ble_eq_true rfl) (Nat.le_of_ble_eq_true rfl) ?_
  obtain ⟨hP1, hK1, hD1⟩ := hB
  rw [ht] at hP1
  have hK1 := va_K.moved hvm.symm hK1
  obtain ⟨hP, hD⟩ := va_join (wr := [(h0, .inr (10, [.ref q_13, .int 0, .ref q_15, .ref q_17, .ref q_19, .ref q_26])), (q_13, .inl (cA_14, 20, .inr (.inr (.inr (.inr (fun _ => none)))))), (q_15, .inl (cA_16, 8, .inl (fun _ => 0))), (q_17, .inl (cA_18, 4, .inr (.inr (.inr (.inr g_147))))), (q_26, .inl (cA_27, 60, .inl (fun _ => 0))), (q_58, .inl (k_60, nn_59, .inl f_61)), (q_56, .inr (9, [.int 0, .int 0, .ref q_58])), (q_98, .inl (k_100, nn_99, .inl f_101)), (q_96, .inr (9, [.int 1, .int 0, .ref q_98])), (q_139, .inl (k_141, nn_140, .inl f_142)), (q_137, .inr (9, [.int 2, .int 0, .ref q_139])), (q_19, .inr (8, [.ref q_21, .int (nI cl_168), .ref q_22, .int (nI ol_169), .int j_170, .int j_171, .int j_172, .int j_173])), (q_21, .inl (k_23, 60, .inl f_174)), (q_22, .inl (k_24, 60, .inl g_175)), (q_181, .inl (k_183, nn_182, .inl f_184))]) (w1 := [(q_179, .inr (9, [.int 3, .int 0, .ref q_181]))]) hP hD [11] [0, 1, 2, 3, 4, 5, 6, 7, 8, 9, 10, 12, 13, 14, 15] rfl rfl (by decide) (by decide) hk1 hFc hP1 hD1
  have hK := (hK.sub (tys' := [(cA_14, .object RX9), (cA_16, .int), (cA_18, .object RX9), (cA_27, .int), (k_60, .int), (k_100, .int), (k_141, .int), (k_23, .int), (k_24, .char), (k_183, .int)]) [0, 1, 2, 3, 4, 5, 6, 7, 8, 9] rfl).app hK1
  have hP : va_P (dC, dI) vwCl [(h0, .inr (10, [.ref q_13, .int 0, .ref q_15, .ref q_17, .ref q_19, .ref q_26])), (q_13, .inl (cA_14, 20, .inr (.inr (.inr (.inr (fun _ => none)))))), (q_15, .inl (cA_16, 8, .inl (fun _ => 0))), (q_17, .inl (cA_18, 4, .inr (.inr (.inr (.inr g_147))))), (q_26, .inl (cA_27, 60, .inl (fun _ => 0))), (q_58, .inl (k_60, nn_59, .inl f_61)), (q_56, .inr (9, [.int 0, .int 0, .ref q_58])), (q_98, .inl (k_100, nn_99, .inl f_101)), (q_96, .inr (9, [.int 1, .int 0, .ref q_98])), (q_139, .inl (k_141, nn_140, .inl f_142)), (q_137, .inr (9, [.int 2, .int 0, .ref q_139])), (q_19, .inr (8, [.ref q_21, .int (nI cl_168), .ref q_22, .int (nI ol_169), .int j_170, .int j_171, .int j_172, .int j_173])), (q_21, .inl (k_23, 60, .inl f_174)), (q_22, .inl (k_24, 60, .inl g_175)), (q_181, .inl (k_183, nn_182, .inl f_184)), (q_179, .inr (9, [.int 3, .int 0, .ref q_181]))] H := hP
  have hD : va_D A [(h0, .inr (10, [.ref q_13, .int 0, .ref q_15, .ref q_17, .ref q_19, .ref q_26])), (q_13, .inl (cA_14, 20, .inr (.inr (.inr (.inr (fun _ => none)))))), (q_15, .inl (cA_16, 8, .inl (fun _ => 0))), (q_17, .inl (cA_18, 4, .inr (.inr (.inr (.inr g_147))))), (q_26, .inl (cA_27, 60, .inl (fun _ => 0))), (q_58, .inl (k_60, nn_59, .inl f_61)), (q_56, .inr (9, [.int 0, .int 0, .ref q_58])), (q_98, .inl (k_100, nn_99, .inl f_101)), (q_96, .inr (9, [.int 1, .int 0, .ref q_98])), (q_139, .inl (k_141, nn_140, .inl f_142)), (q_137, .inr (9, [.int 2, .int 0, .ref q_139])), (q_19, .inr (8, [.ref q_21, .int (nI cl_168), .ref q_22, .int (nI ol_169), .int j_170, .int j_171, .int j_172, .int j_173])), (q_21, .inl (k_23, 60, .inl f_174)), (q_22, .inl (k_24, 60, .inl g_175)), (q_181, .inl (k_183, nn_182, .inl f_184)), (q_179, .inr (9, [.int 3, .int 0, .ref q_181]))] := hD
  have hK : va_K (dC, dI) vwCl [(cA_14, .object RX9), (cA_16, .int), (cA_18, .object RX9), (cA_27, .int), (k_60, .int), (k_100, .int), (k_141, .int), (k_23, .int), (k_24, .char), (k_183, .int)] s := hK
  refine va_astq hx hb hK hP hD hS 3 2 15 9 rfl rfl rfl rfl (by unfold vp_in; decide) dX10_init_104 (fun H locs hP hD hS => ?_)
  obtain ⟨g_189, eg_189⟩ : ∃ y : Nat → Option Nat, y = va_up g_147 (3 : Int32).toNatClampNeg (some q_179) := ⟨_, rfl⟩
  have hP : va_P (dC, dI) vwCl [(h0, .inr (10, [.ref q_13, .int 0, .ref q_15, .ref q_17, .ref q_19, .ref q_26])), (q_13, .inl (cA_14, 20, .inr (.inr (.inr (.inr (fun _ => none)))))), (q_15, .inl (cA_16, 8, .inl (fun _ => 0))), (q_17, .inl (cA_18, 4, .inr (.inr (.inr (.inr g_189))))), (q_26, .inl (cA_27, 60, .inl (fun _ => 0))), (q_58, .inl (k_60, nn_59, .inl f_61)), (q_56, .inr (9, [.int 0, .int 0, .ref q_58])), (q_98, .inl (k_100, nn_99, .inl f_101)), (q_96, .inr (9, [.int 1, .int 0, .ref q_98])), (q_139, .inl (k_141, nn_140, .inl f_142)), (q_137, .inr (9, [.int 2, .int 0, .ref q_139])), (q_19, .inr (8, [.ref q_21, .int (nI cl_168), .ref q_22, .int (nI ol_169), .int j_170, .int j_171, .int j_172, .int j_173])), (q_21, .inl (k_23, 60, .inl f_174)), (q_22, .inl (k_24, 60, .inl g_175)), (q_181, .inl (k_183, nn_182, .inl f_184)), (q_179, .inr (9, [.int 3, .int 0, .ref q_181]))] H := by rw [eg_189]; exact hP
  have hD : va_D A [(h0, .inr (10, [.ref q_13, .int 0, .ref q_15, .ref q_17, .ref q_19, .ref q_26])), (q_13, .inl (cA_14, 20, .inr (.inr (.inr (.inr (fun _ => none)))))), (q_15, .inl (cA_16, 8, .inl (fun _ => 0))), (q_17, .inl (cA_18, 4, .inr (.inr (.inr (.inr g_189))))), (q_26, .inl (cA_27, 60, .inl (fun _ => 0))), (q_58, .inl (k_60, nn_59, .inl f_61)), (q_56, .inr (9, [.int 0, .int 0, .ref q_58])), (q_98, .inl (k_100, nn_99, .inl f_101)), (q_96, .inr (9, [.int 1, .int 0, .ref q_98])), (q_139, .inl (k_141, nn_140, .inl f_142)), (q_137, .inr (9, [.int 2, .int 0, .ref q_139])), (q_19, .inr (8, [.ref q_21, .int (nI cl_168), .ref q_22, .int (nI ol_169), .int j_170, .int j_171, .int j_172, .int j_173])), (q_21, .inl (k_23, 60, .inl f_174)), (q_22, .inl (k_24, 60, .inl g_175)), (q_181, .inl (k_183, nn_182, .inl f_184)), (q_179, .inr (9, [.int 3, .int 0, .ref q_181]))] := by rw [eg_189]; exact hD
  have hga_190 : g_189 0 = some q_56 := by rw [eg_189]; exact (if_neg (by decide)).trans hga_148
  have hga_191 : g_189 1 = some q_96 := by rw [eg_189]; exact (if_neg (by decide)).trans hga_149
  have hga_192 : g_189 2 = some q_137 := by rw [eg_189]; exact (if_neg (by decide)).trans hga_150
  have hga_193 : g_189 3 = some q_179 := by rw [eg_189]; exact if_pos (by decide)
  refine lv_iinc (v := 4) (lv' := [(1, .int 4), (2, .ref q_157), (0, .ref h0)]) hx hb dX10_init_105 hl (k := 1) rfl (by decide) (by decide) rfl (fun ls hl => ?_)
  refine lv_goto (tgt := 55) hx hb dX10_init_108 (by decide) ?_
  refine lv_iload_n hx hb dX10_init_55 rfl (lv_at hl 0 rfl) ?_
  refine lv_iconst (v := 4) hx hb dX10_init_56 (by decide) ?_
  refine lv_icmp_ge (tgt := 111) hx hb dX10_init_57 (by decide) (fun c_194 => ?_) (fun c_194 => absurd c_194 (fun z => z (by decide)))
  have hP9 := hP.sub (ws' := [(h0, .inr (10, [.ref q_13, .int 0, .ref q_15, .ref q_17, .ref q_19, .ref q_26])), (q_13, .inl (cA_14, 20, .inr (.inr (.inr (.inr (fun _ => none)))))), (q_15, .inl (cA_16, 8, .inl (fun _ => 0))), (q_17, .inl (cA_18, 4, .inr (.inr (.inr (.inr g_189))))), (q_19, .inr (8, [.ref q_21, .int (nI cl_168), .ref q_22, .int (nI ol_169), .int j_170, .int j_171, .int j_172, .int j_173])), (q_21, .inl (k_23, 60, .inl f_174)), (q_22, .inl (k_24, 60, .inl g_175)), (q_26, .inl (cA_27, 60, .inl (fun _ => 0))), (q_56, .inr (9, [.int 0, .int 0, .ref q_58])), (q_58, .inl (k_60, nn_59, .inl f_61)), (q_96, .inr (9, [.int 1, .int 0, .ref q_98])), (q_98, .inl (k_100, nn_99, .inl f_101)), (q_137, .inr (9, [.int 2, .int 0, .ref q_139])), (q_139, .inl (k_141, nn_140, .inl f_142)), (q_179, .inr (9, [.int 3, .int 0, .ref q_181])), (q_181, .inl (k_183, nn_182, .inl f_184))]) [0, 1, 2, 3, 11, 12, 13, 4, 6, 5, 8, 7, 10, 9, 15, 14] rfl
  have hD9 := hD.sub (ws' := [(h0, .inr (10, [.ref q_13, .int 0, .ref q_15, .ref q_17, .ref q_19, .ref q_26])), (q_13, .inl (cA_14, 20, .inr (.inr (.inr (.inr (fun _ => none)))))), (q_15, .inl (cA_16, 8, .inl (fun _ => 0))), (q_17, .inl (cA_18, 4, .inr (.inr (.inr (.inr g_189))))), (q_19, .inr (8, [.ref q_21, .int (nI cl_168), .ref q_22, .int (nI ol_169), .int j_170, .int j_171, .int j_172, .int j_173])), (q_21, .inl (k_23, 60, .inl f_174)), (q_22, .inl (k_24, 60, .inl g_175)), (q_26, .inl (cA_27, 60, .inl (fun _ => 0))), (q_56, .inr (9, [.int 0, .int 0, .ref q_58])), (q_58, .inl (k_60, nn_59, .inl f_61)), (q_96, .inr (9, [.int 1, .int 0, .ref q_98])), (q_98, .inl (k_100, nn_99, .inl f_101)), (q_137, .inr (9, [.int 2, .int 0, .ref q_139])), (q_139, .inl (k_141, nn_140, .inl f_142)), (q_179, .inr (9, [.int 3, .int 0, .ref q_181])), (q_181, .inl (k_183, nn_182, .inl f_184))]) [0, 1, 2, 3, 11, 12, 13, 4, 6, 5, 8, 7, 10, 9, 15, 14] (by decide) rfl
  have hK9 := hK.sub (tys' := [(cA_14, .object RX9), (cA_16, .int), (cA_18, .object RX9), (k_23, .int), (k_24, .char), (cA_27, .int), (k_60, .int), (k_100, .int), (k_141, .int), (k_183, .int)]) [0, 1, 2, 7, 8, 3, 4, 5, 6, 9] rfl
  exact W.vret hx hb hr (fun t ht hW => ⟨⟨(), rfl, trivial, ⟨q_13, q_15, q_17, q_19, q_26, q_21, q_22, cA_14, cA_16, cA_18, k_23, k_24, cA_27, g_189, f_174, g_175, nI cl_168, nI ol_169, j_170, j_171, j_172, j_173, q_56, q_96, q_137, q_179, q_58, q_98, q_139, q_181, k_60, k_100, k_141, k_183, nn_59, nn_99, nn_140, nn_182, f_61, f_101, f_142, f_184, hga_190, hga_191, hga_192, hga_193, hf_63, hf_103, hf_144, hf_186, by rw [ht]; exact hP9, va_K.moved hW.alike hK9, hD9⟩⟩, hS.F ht⟩) hS.2.2 dX10_init_111
