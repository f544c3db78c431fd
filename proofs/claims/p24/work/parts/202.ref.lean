theorem dX12_as_0 : decode cX12_as 0 = .ok (.aload_n 0, 1) := by decide +kernel
theorem dX12_as_1 : decode cX12_as 1 = .ok (.iconst 0, 1) := by decide +kernel
theorem dX12_as_12 : decode cX12_as 12 = .ok (.ifCond .ne 5, 3) := by decide +kernel
theorem dX12_as_15 : decode cX12_as 15 = .ok (.iconst (-1), 1) := by decide +kernel
theorem dX12_as_16 : decode cX12_as 16 = .ok (.ireturn, 1) := by decide +kernel
theorem dX12_as_17 : decode cX12_as 17 = .ok (.aload_n 0, 1) := by decide +kernel
theorem dX12_as_18 : decode cX12_as 18 = .ok (.getfield 94, 3) := by decide +kernel
theorem dX12_as_2 : decode cX12_as 2 = .ok (.putfield 139, 3) := by decide +kernel
theorem dX12_as_21 : decode cX12_as 21 = .ok (.istore_n 2, 1) := by decide +kernel
theorem dX12_as_22 : decode cX12_as 22 = .ok (.aload_n 0, 1) := by decide +kernel
theorem dX12_as_23 : decode cX12_as 23 = .ok (.iload_n 1, 1) := by decide +kernel
theorem dX12_as_24 : decode cX12_as 24 = .ok (.putfield 94, 3) := by decide +kernel
theorem dX12_as_27 : decode cX12_as 27 = .ok (.iload_n 2, 1) := by decide +kernel
theorem dX12_as_28 : decode cX12_as 28 = .ok (.ireturn, 1) := by decide +kernel
theorem dX12_as_5 : decode cX12_as 5 = .ok (.iload_n 1, 1) := by decide +kernel
theorem dX12_as_6 : decode cX12_as 6 = .ok (.iconst 0, 1) := by decide +kernel
theorem dX12_as_7 : decode cX12_as 7 = .ok (.bipush 99, 2) := by decide +kernel
theorem dX12_as_9 : decode cX12_as 9 = .ok (.invokestatic 145, 3) := by decide +kernel
theorem dX12_correct_0 : decode cX12_correct 0 = .ok (.aload_n 0, 1) := by decide +kernel
theorem dX12_correct_1 : decode cX12_correct 1 = .ok (.iconst 0, 1) := by decide +kernel
theorem dX12_correct_10 : decode cX12_correct 10 = .ok (.ifCond .eq 61, 3) := by decide +kernel
theorem dX12_correct_101 : decode cX12_correct 101 = .ok (.bipush 100, 2) := by decide +kernel
theorem dX12_correct_103 : decode cX12_correct 103 = .ok (.iastore, 1) := by decide +kernel
theorem dX12_correct_104 : decode cX12_correct 104 = .ok (.aload_n 0, 1) := by decide +kernel
theorem dX12_correct_105 : decode cX12_correct 105 = .ok (.getfield 91, 3) := by decide +kernel
theorem dX12_correct_108 : decode cX12_correct 108 = .ok (.iconst 3, 1) := by decide +kernel
theorem dX12_correct_109 : decode cX12_correct 109 = .ok (.aload_n 0, 1) := by decide +kernel
theorem dX12_correct_110 : decode cX12_correct 110 = .ok (.getfield 321, 3) := by decide +kernel
theorem dX12_correct_113 : decode cX12_correct 113 = .ok (.imul, 1) := by decide +kernel
theorem dX12_correct_114 : decode cX12_correct 114 = .ok (.iload_n 3, 1) := by decide +kernel
theorem dX12_correct_115 : decode cX12_correct 115 = .ok (.iastore, 1) := by decide +kernel
theorem dX12_correct_116 : decode cX12_correct 116 = .ok (.aload_n 0, 1) := by decide +kernel
theorem dX12_correct_117 : decode cX12_correct 117 = .ok (.getfield 91, 3) := by decide +kernel
theorem dX12_correct_120 : decode cX12_correct 120 = .ok (.iconst 3, 1) := by decide +kernel
theorem dX12_correct_121 : decode cX12_correct 121 = .ok (.aload_n 0, 1) := by decide +kernel
theorem dX12_correct_122 : decode cX12_correct 122 = .ok (.getfield 321, 3) := by decide +kernel
theorem dX12_correct_125 : decode cX12_correct 125 = .ok (.imul, 1) := by decide +kernel
theorem dX12_correct_126 : decode cX12_correct 126 = .ok (.iconst 1, 1) := by decide +kernel
theorem dX12_correct_127 : decode cX12_correct 127 = .ok (.iadd, 1) := by decide +kernel
theorem dX12_correct_128 : decode cX12_correct 128 = .ok (.iload 4, 2) := by decide +kernel
theorem dX12_correct_13 : decode cX12_correct 13 = .ok (.aload_n 0, 1) := by decide +kernel
theorem dX12_correct_130 : decode cX12_correct 130 = .ok (.iastore, 1) := by decide +kernel
theorem dX12_correct_131 : decode cX12_correct 131 = .ok (.aload_n 0, 1) := by decide +kernel
theorem dX12_correct_132 : decode cX12_correct 132 = .ok (.getfield 91, 3) := by decide +kernel
theorem dX12_correct_135 : decode cX12_correct 135 = .ok (.iconst 3, 1) := by decide +kernel
theorem dX12_correct_136 : decode cX12_correct 136 = .ok (.aload_n 0, 1) := by decide +kernel
theorem dX12_correct_137 : decode cX12_correct 137 = .ok (.getfield 321, 3) := by decide +kernel
theorem dX12_correct_14 : decode cX12_correct 14 = .ok (.iload_n 1, 1) := by decide +kernel
theorem dX12_correct_140 : decode cX12_correct 140 = .ok (.imul, 1) := by decide +kernel
theorem dX12_correct_141 : decode cX12_correct 141 = .ok (.iconst 2, 1) := by decide +kernel
theorem dX12_correct_142 : decode cX12_correct 142 = .ok (.iadd, 1) := by decide +kernel
theorem dX12_correct_143 : decode cX12_correct 143 = .ok (.iload 5, 2) := by decide +kernel
theorem dX12_correct_145 : decode cX12_correct 145 = .ok (.iastore, 1) := by decide +kernel
theorem dX12_correct_146 : decode cX12_correct 146 = .ok (.aload_n 0, 1) := by decide +kernel
theorem dX12_correct_147 : decode cX12_correct 147 = .ok (.dup, 1) := by decide +kernel
theorem dX12_correct_148 : decode cX12_correct 148 = .ok (.getfield 321, 3) := by decide +kernel
theorem dX12_correct_15 : decode cX12_correct 15 = .ok (.iconst 2, 1) := by decide +kernel
theorem dX12_correct_151 : decode cX12_correct 151 = .ok (.iconst 1, 1) := by decide +kernel
theorem dX12_correct_152 : decode cX12_correct 152 = .ok (.iadd, 1) := by decide +kernel
theorem dX12_correct_153 : decode cX12_correct 153 = .ok (.putfield 321, 3) := by decide +kernel
theorem dX12_correct_156 : decode cX12_correct 156 = .ok (.aload_n 0, 1) := by decide +kernel
theorem dX12_correct_157 : decode cX12_correct 157 = .ok (.getfield 321, 3) := by decide +kernel
theorem dX12_correct_16 : decode cX12_correct 16 = .ok (.invokevirtual 261, 3) := by decide +kernel
theorem dX12_correct_160 : decode cX12_correct 160 = .ok (.iconst 1, 1) := by decide +kernel
theorem dX12_correct_161 : decode cX12_correct 161 = .ok (.isub, 1) := by decide +kernel
theorem dX12_correct_162 : decode cX12_correct 162 = .ok (.ireturn, 1) := by decide +kernel
theorem dX12_correct_19 : decode cX12_correct 19 = .ok (.iconst (-1), 1) := by decide +kernel
theorem dX12_correct_2 : decode cX12_correct 2 = .ok (.putfield 139, 3) := by decide +kernel
theorem dX12_correct_20 : decode cX12_correct 20 = .ok (.if_icmp .eq 51, 3) := by decide +kernel
theorem dX12_correct_23 : decode cX12_correct 23 = .ok (.iload_n 2, 1) := by decide +kernel
theorem dX12_correct_24 : decode cX12_correct 24 = .ok (.iconst 0, 1) := by decide +kernel
theorem dX12_correct_25 : decode cX12_correct 25 = .ok (.bipush 99, 2) := by decide +kernel
theorem dX12_correct_27 : decode cX12_correct 27 = .ok (.invokestatic 145, 3) := by decide +kernel
theorem dX12_correct_30 : decode cX12_correct 30 = .ok (.ifCond .eq 41, 3) := by decide +kernel
theorem dX12_correct_33 : decode cX12_correct 33 = .ok (.iload_n 3, 1) := by decide +kernel
theorem dX12_correct_34 : decode cX12_correct 34 = .ok (.iconst 0, 1) := by decide +kernel
theorem dX12_correct_35 : decode cX12_correct 35 = .ok (.iconst 1, 1) := by decide +kernel
theorem dX12_correct_36 : decode cX12_correct 36 = .ok (.invokestatic 145, 3) := by decide +kernel
theorem dX12_correct_39 : decode cX12_correct 39 = .ok (.ifCond .eq 32, 3) := by decide +kernel
theorem dX12_correct_42 : decode cX12_correct 42 = .ok (.iload 4, 2) := by decide +kernel
theorem dX12_correct_44 : decode cX12_correct 44 = .ok (.iconst 0, 1) := by decide +kernel
theorem dX12_correct_45 : decode cX12_correct 45 = .ok (.iconst 1, 1) := by decide +kernel
theorem dX12_correct_46 : decode cX12_correct 46 = .ok (.invokestatic 145, 3) := by decide +kernel
theorem dX12_correct_49 : decode cX12_correct 49 = .ok (.ifCond .eq 22, 3) := by decide +kernel
theorem dX12_correct_5 : decode cX12_correct 5 = .ok (.aload_n 0, 1) := by decide +kernel
theorem dX12_correct_52 : decode cX12_correct 52 = .ok (.iload 5, 2) := by decide +kernel
theorem dX12_correct_54 : decode cX12_correct 54 = .ok (.iconst 0, 1) := by decide +kernel
theorem dX12_correct_55 : decode cX12_correct 55 = .ok (.iconst 1, 1) := by decide +kernel
theorem dX12_correct_56 : decode cX12_correct 56 = .ok (.invokestatic 145, 3) := by decide +kernel
theorem dX12_correct_59 : decode cX12_correct 59 = .ok (.ifCond .eq 12, 3) := by decide +kernel
theorem dX12_correct_6 : decode cX12_correct 6 = .ok (.iload_n 1, 1) := by decide +kernel
theorem dX12_correct_62 : decode cX12_correct 62 = .ok (.aload_n 0, 1) := by decide +kernel
theorem dX12_correct_63 : decode cX12_correct 63 = .ok (.getfield 321, 3) := by decide +kernel
theorem dX12_correct_66 : decode cX12_correct 66 = .ok (.bipush 40, 2) := by decide +kernel
theorem dX12_correct_68 : decode cX12_correct 68 = .ok (.if_icmp .ne 5, 3) := by decide +kernel
theorem dX12_correct_7 : decode cX12_correct 7 = .ok (.invokevirtual 315, 3) := by decide +kernel
theorem dX12_correct_71 : decode cX12_correct 71 = .ok (.iconst (-1), 1) := by decide +kernel
theorem dX12_correct_72 : decode cX12_correct 72 = .ok (.ireturn, 1) := by decide +kernel
theorem dX12_correct_73 : decode cX12_correct 73 = .ok (.aload_n 0, 1) := by decide +kernel
theorem dX12_correct_74 : decode cX12_correct 74 = .ok (.getfield 82, 3) := by decide +kernel
theorem dX12_correct_77 : decode cX12_correct 77 = .ok (.aload_n 0, 1) := by decide +kernel
theorem dX12_correct_78 : decode cX12_correct 78 = .ok (.getfield 321, 3) := by decide +kernel
theorem dX12_correct_81 : decode cX12_correct 81 = .ok (.iload_n 1, 1) := by decide +kernel
theorem dX12_correct_82 : decode cX12_correct 82 = .ok (.iastore, 1) := by decide +kernel
theorem dX12_correct_83 : decode cX12_correct 83 = .ok (.aload_n 0, 1) := by decide +kernel
theorem dX12_correct_84 : decode cX12_correct 84 = .ok (.getfield 85, 3) := by decide +kernel
theorem dX12_correct_87 : decode cX12_correct 87 = .ok (.aload_n 0, 1) := by decide +kernel
theorem dX12_correct_88 : decode cX12_correct 88 = .ok (.getfield 321, 3) := by decide +kernel
theorem dX12_correct_91 : decode cX12_correct 91 = .ok (.iload_n 2, 1) := by decide +kernel
theorem dX12_correct_92 : decode cX12_correct 92 = .ok (.iastore, 1) := by decide +kernel
theorem dX12_correct_93 : decode cX12_correct 93 = .ok (.aload_n 0, 1) := by decide +kernel
theorem dX12_correct_94 : decode cX12_correct 94 = .ok (.getfield 88, 3) := by decide +kernel
theorem dX12_correct_97 : decode cX12_correct 97 = .ok (.aload_n 0, 1) := by decide +kernel
theorem dX12_correct_98 : decode cX12_correct 98 = .ok (.getfield 321, 3) := by decide +kernel
theorem dX12_row_0 : decode cX12_row 0 = .ok (.aload_n 0, 1) := by decide +kernel
theorem dX12_row_1 : decode cX12_row 1 = .ok (.iconst 0, 1) := by decide +kernel
theorem dX12_row_11 : decode cX12_row 11 = .ok (.iconst 1, 1) := by decide +kernel
theorem dX12_row_12 : decode cX12_row 12 = .ok (.isub, 1) := by decide +kernel
theorem dX12_row_13 : decode cX12_row 13 = .ok (.invokestatic 145, 3) := by decide +kernel
theorem dX12_row_16 : decode cX12_row 16 = .ok (.ifCond .eq 12, 3) := by decide +kernel
theorem dX12_row_19 : decode cX12_row 19 = .ok (.aload_n 0, 1) := by decide +kernel
theorem dX12_row_2 : decode cX12_row 2 = .ok (.putfield 139, 3) := by decide +kernel
theorem dX12_row_20 : decode cX12_row 20 = .ok (.getfield 104, 3) := by decide +kernel
theorem dX12_row_23 : decode cX12_row 23 = .ok (.iload_n 1, 1) := by decide +kernel
theorem dX12_row_24 : decode cX12_row 24 = .ok (.iaload, 1) := by decide +kernel
theorem dX12_row_25 : decode cX12_row 25 = .ok (.goto 7, 3) := by decide +kernel
theorem dX12_row_28 : decode cX12_row 28 = .ok (.aload_n 0, 1) := by decide +kernel
theorem dX12_row_29 : decode cX12_row 29 = .ok (.invokevirtual 312, 3) := by decide +kernel
theorem dX12_row_32 : decode cX12_row 32 = .ok (.ireturn, 1) := by decide +kernel
theorem dX12_row_5 : decode cX12_row 5 = .ok (.iload_n 1, 1) := by decide +kernel
theorem dX12_row_6 : decode cX12_row 6 = .ok (.iconst 0, 1) := by decide +kernel
theorem dX12_row_7 : decode cX12_row 7 = .ok (.aload_n 0, 1) := by decide +kernel
theorem dX12_row_8 : decode cX12_row 8 = .ok (.getfield 327, 3) := by decide +kernel
theorem dX12_slips_0 : decode cX12_slips 0 = .ok (.aload_n 0, 1) := by decide +kernel
theorem dX12_slips_1 : decode cX12_slips 1 = .ok (.iconst 0, 1) := by decide +kernel
theorem dX12_slips_10 : decode cX12_slips 10 = .ok (.ifCond .eq 22, 3) := by decide +kernel
theorem dX12_slips_13 : decode cX12_slips 13 = .ok (.iload_n 2, 1) := by decide +kernel
theorem dX12_slips_14 : decode cX12_slips 14 = .ok (.iconst 0, 1) := by decide +kernel
theorem dX12_slips_15 : decode cX12_slips 15 = .ok (.iconst 1, 1) := by decide +kernel
theorem dX12_slips_16 : decode cX12_slips 16 = .ok (.invokestatic 145, 3) := by decide +kernel
theorem dX12_slips_19 : decode cX12_slips 19 = .ok (.ifCond .eq 13, 3) := by decide +kernel
theorem dX12_slips_2 : decode cX12_slips 2 = .ok (.putfield 139, 3) := by decide +kernel
theorem dX12_slips_22 : decode cX12_slips 22 = .ok (.iload_n 3, 1) := by decide +kernel
theorem dX12_slips_23 : decode cX12_slips 23 = .ok (.iconst 0, 1) := by decide +kernel
theorem dX12_slips_24 : decode cX12_slips 24 = .ok (.ldc 155, 2) := by decide +kernel
theorem dX12_slips_26 : decode cX12_slips 26 = .ok (.invokestatic 145, 3) := by decide +kernel
theorem dX12_slips_29 : decode cX12_slips 29 = .ok (.ifCond .ne 5, 3) := by decide +kernel
theorem dX12_slips_32 : decode cX12_slips 32 = .ok (.iconst 0, 1) := by decide +kernel
theorem dX12_slips_33 : decode cX12_slips 33 = .ok (.ireturn, 1) := by decide +kernel
theorem dX12_slips_34 : decode cX12_slips 34 = .ok (.aload_n 0, 1) := by decide +kernel
theorem dX12_slips_35 : decode cX12_slips 35 = .ok (.getfield 98, 3) := by decide +kernel
theorem dX12_slips_38 : decode cX12_slips 38 = .ok (.iconst 2, 1) := by decide +kernel
theorem dX12_slips_39 : decode cX12_slips 39 = .ok (.iload_n 1, 1) := by decide +kernel
theorem dX12_slips_40 : decode cX12_slips 40 = .ok (.imul, 1) := by decide +kernel
theorem dX12_slips_41 : decode cX12_slips 41 = .ok (.iload_n 2, 1) := by decide +kernel
theorem dX12_slips_42 : decode cX12_slips 42 = .ok (.iadd, 1) := by decide +kernel
theorem dX12_slips_43 : decode cX12_slips 43 = .ok (.iload_n 3, 1) := by decide +kernel
theorem dX12_slips_44 : decode cX12_slips 44 = .ok (.iastore, 1) := by decide +kernel
theorem dX12_slips_45 : decode cX12_slips 45 = .ok (.iconst 1, 1) := by decide +kernel
theorem dX12_slips_46 : decode cX12_slips 46 = .ok (.ireturn, 1) := by decide +kernel
theorem dX12_slips_5 : decode cX12_slips 5 = .ok (.aload_n 0, 1) := by decide +kernel
theorem dX12_slips_6 : decode cX12_slips 6 = .ok (.iload_n 1, 1) := by decide +kernel
theorem dX12_slips_7 : decode cX12_slips 7 = .ok (.invokevirtual 315, 3) := by decide +kernel
theorem dX12_undo_0 : decode cX12_undo 0 = .ok (.aload_n 0, 1) := by decide +kernel
theorem dX12_undo_1 : decode cX12_undo 1 = .ok (.iconst 0, 1) := by decide +kernel
theorem dX12_undo_11 : decode cX12_undo 11 = .ok (.iconst 1, 1) := by decide +kernel
theorem dX12_undo_12 : decode cX12_undo 12 = .ok (.isub, 1) := by decide +kernel
theorem dX12_undo_13 : decode cX12_undo 13 = .ok (.invokestatic 145, 3) := by decide +kernel
theorem dX12_undo_16 : decode cX12_undo 16 = .ok (.ifCond .eq 13, 3) := by decide +kernel
theorem dX12_undo_19 : decode cX12_undo 19 = .ok (.iload_n 2, 1) := by decide +kernel
theorem dX12_undo_2 : decode cX12_undo 2 = .ok (.putfield 139, 3) := by decide +kernel
theorem dX12_undo_20 : decode cX12_undo 20 = .ok (.iconst 0, 1) := by decide +kernel
theorem dX12_undo_21 : decode cX12_undo 21 = .ok (.bipush 99, 2) := by decide +kernel
theorem dX12_undo_23 : decode cX12_undo 23 = .ok (.invokestatic 145, 3) := by decide +kernel
theorem dX12_undo_26 : decode cX12_undo 26 = .ok (.ifCond .ne 5, 3) := by decide +kernel
theorem dX12_undo_29 : decode cX12_undo 29 = .ok (.iconst 0, 1) := by decide +kernel
theorem dX12_undo_30 : decode cX12_undo 30 = .ok (.ireturn, 1) := by decide +kernel
theorem dX12_undo_31 : decode cX12_undo 31 = .ok (.aload_n 0, 1) := by decide +kernel
theorem dX12_undo_32 : decode cX12_undo 32 = .ok (.getfield 88, 3) := by decide +kernel
theorem dX12_undo_35 : decode cX12_undo 35 = .ok (.iload_n 1, 1) := by decide +kernel
theorem dX12_undo_36 : decode cX12_undo 36 = .ok (.iload_n 2, 1) := by decide +kernel
theorem dX12_undo_37 : decode cX12_undo 37 = .ok (.iastore, 1) := by decide +kernel
theorem dX12_undo_38 : decode cX12_undo 38 = .ok (.iconst 1, 1) := by decide +kernel
theorem dX12_undo_39 : decode cX12_undo 39 = .ok (.ireturn, 1) := by decide +kernel
theorem dX12_undo_5 : decode cX12_undo 5 = .ok (.iload_n 1, 1) := by decide +kernel
theorem dX12_undo_6 : decode cX12_undo 6 = .ok (.iconst 0, 1) := by decide +kernel
theorem dX12_undo_7 : decode cX12_undo 7 = .ok (.aload_n 0, 1) := by decide +kernel
theorem dX12_undo_8 : decode cX12_undo 8 = .ok (.getfield 321, 3) := by decide +kernel
def wo_m_row : List Cond := [.fieldLink RX12 139 "TypingPoolModel" "thrown" "I", .fieldLink RX12 327 "TypingPoolModel" "rowMany" "I", .methodLink RX12 145 yX12_in, .static yX12_in, .initialized RX12, .fieldLink RX12 104 "TypingPoolModel" "row" "[I", .methodLink RX12 312 yX12_lost, .instanceMethod yX12_lost, .selects RX12 yX12_lost yX12_lost]
def wm_m_row : List Cond := .code yX12_row cX12_row 2 (some .int) :: (wo_m_row ++ (wsX120 ++ (wm_m_in ++ (wm_m_lost ++ ([] : List Cond)))))
theorem gd_m_row : ∀ w ∈ wm_m_row, goodWord w = true := gd_c rfl (gd_a (by decide) (gd_a gd_wsX120 (gd_a gd_m_in (gd_a gd_m_lost gd_nil))))
set_option maxRecDepth 20000 in
theorem im_m_row : ∀ w ∈ wm_m_row, w ∈ lw_tbl := im_c (in_r [.code yX12_row cX12_row 2 (some .int)] [1734] (by decide +kernel)) (in_app (in_r wo_m_row [1278, 1277, 1420, 1421, 86, 1276, 1588, 1590, 54] (by decide +kernel)) (in_app im_wsX120 (in_app im_m_in (in_app im_m_lost im_nil))))
set_option maxHeartbeats 4000000 in
set_option maxRecDepth 100000 in
theorem m_row (l : Launch) (dC : Nat → ClassId) (dI : Nat → Nat → Nat) (ad av : Nat → Nat) (sz : Nat) (a : Nat → Nat) (k : Nat → ClassId) (τ ln : Nat → Nat) (y : Nat → Nat → Int32) (g : Nat → Nat → Option Nat) (u : Nat → Int) (p0 : Int32) (hI : IM a u τ y) (hW : IW (u 1) (u 2) (u 9) (y (a 89))) : Met l yX12_row wm_m_row ({ frames := 1, cells := 0, slots := 0, locals := 60 }) (pw_ ad av (dC, dI) sz [.ref (a 50), .int p0] a k τ ln y g) (va_Qi (fun (r u : Int32) => u = r) (fun (r : Int32) (t : State) => (∃ (y' : Nat → Nat → Int32) (g' : Nat → Nat → Option Nat), ag τ [60] y y' ∧ agg τ g g' ∧ IM a u τ y' ∧ tw (dC, dI) a k τ ln y' g' t.heap)) (fr τ sz)) 0 0 (fr τ sz) := by
  refine Met.ofW (cc := cX12_row) (maxL := 2) (ret := (some .int)) (by decide) rfl ?_
  intro p e s m args below meth c s₁ B hml hv
  obtain ⟨rfl, hsz, hT, hK, hM⟩ := hv
  have hx := B.exec
  have hb := B.bytes
  have hr := B.returns
  have hts := atoms_spec (ws := wm_m_row) B.pre
  have hown : s.vm.findClass RX12 = some m.cls := findClass_of_methodNamed B.named
  have hlocks := B.notSynchronized
  subst hsz
  generalize hAe : fr τ s.heap.size = A at hM ⊢
  have hA : ∀ q : Nat, s.heap.size ≤ q → A q := fun q h => by rw [← hAe]; exact Or.inr h
  have hF : ∀ q, τ q ≠ 0 → A q := fun q h => by rw [← hAe]; exact Or.inl h
  have hS : va_S A s.heap s.heap [] := va_S.rf
  have hX := hI.1
  have hR := im_r hI
  have hG : ag τ [60] y y := ag.rf
  have hGg : agg τ g g := agg.rf
  have hl := lv_entry ([.ref (a 50), .int p0]) (n := 2) (Nat.le_of_ble_eq_true rfl)
  rw [lg_entry_eq]
  generalize (lg_sl ([.ref (a 50), .int p0]) ++ List.replicate (2 - (lg_sl ([.ref (a 50), .int p0])).length) Slot.unset).toArray = ls at hl ⊢
  have hl : lv_has ls 2 [(0, .ref (a 50)), (1, .int p0)] := hl
  refine lv_aload_n hx hb dX12_row_0 rfl (lv_at hl 0 rfl) ?_
  refine lv_iconst (v := 0) hx hb dX12_row_1 (by decide) ?_
  refine tw_put (D := (dC, dI)) (x := 0) (ty := .int) (C := RX12) (T := TX12) (N := 58) hx hb hts (fun _ hh => (List.mem_cons_of_mem _ (List.mem_append_right _ (List.mem_append_left _ hh)))) tyX12 tyX12_ok nmX12 hown hK hT hF hS (fx_50 hX) (by decide) cl_e60 rfl 37 (by decide) (hts (.fieldLink RX12 139 "TypingPoolModel" "thrown" "I") (List.mem_cons_of_mem _ (List.mem_append_left _ (List.mem_of_getElem? (i := 0) rfl)))) (fun _ h9 => h9) rfl (tyX12_ok 37 (by decide)) rfl rfl (Nat.le_of_ble_eq_true rfl) rfl dX12_row_2 (fun H locs hT hS => ?_)
  obtain ⟨y_1, hy_1, hT⟩ : ∃ z : Nat → Nat → Int32, z = up2 y (a 50) 37 (0 : Int32) ∧ tw (dC, dI) a k τ ln z g H := ⟨_, rfl, hT⟩
  have hG : ag τ [60] y y_1 := by rw [hy_1]; exact hG.up (fx_50 hX) (by decide)
  have hW : IW (u 1) (u 2) (u 9) (y_1 (a 89)) := by rw [hy_1, up2_o (kd_ne (fx_89 hX) (fx_50 hX) (by decide))]; exact hW
  have hI := hI.put (f := 37) (x := (0 : Int32)) (by decide)
  rw [← hy_1] at hI
  refine lv_iload_n hx hb dX12_row_5 rfl (lv_at hl 1 rfl) ?_
  refine lv_iconst (v := 0) hx hb dX12_row_6 (by decide) ?_
  refine lv_aload_n hx hb dX12_row_7 rfl (lv_at hl 0 rfl) ?_
  refine tw_get (D := (dC, dI)) (v := .int (y_1 (a 50) 36)) (C := RX12) (T := TX12) (N := 58) hx hb hts (fun _ hh => (List.mem_cons_of_mem _ (List.mem_append_right _ (List.mem_append_left _ hh)))) hown hK hT (fx_50 hX) (by decide) cl_e60 rfl 36 (by decide) (hts (.fieldLink RX12 327 "TypingPoolModel" "rowMany" "I") (List.mem_cons_of_mem _ (List.mem_append_left _ (List.mem_of_getElem? (i := 1) rfl)))) (fun _ h9 => h9) rfl dX12_row_8 ?_
  have hc_2 := im_7 hI
  refine lv_iconst (v := 1) hx hb dX12_row_11 (by decide) ?_
  refine lv_isub hx hb dX12_row_12 ?_
  refine lv_topi (fun x_3 ex_3 => ?_)
  have hx_3 := z_sub ex_3 hc_2 (zk (x := 1) 1 rfl) (by omega) (by omega)
  have hFc := tw_free hF hS hA
  have hp_4 : (0 : Int32).toInt = 0 := (zk (x := 0) 0 rfl)
  refine va_calli (va_runS (As := [.int p0, .int 0, .int x_3]) (rest := []) ⟨hx, hb, hml, hown, hts⟩ (m_in l dC dI ad av H.size a k τ ln y_1 g u p0 (0 : Int32) x_3  ) (va_cwS 3 hts (gi_3 (List.mem_cons_of_mem _ (List.mem_append_left _ (List.mem_of_getElem? (i := 2) rfl))) (List.mem_cons_of_mem _ (List.mem_append_left _ (List.mem_of_getElem? (i := 3) rfl))) (List.mem_cons_of_mem _ (List.mem_append_left _ (List.mem_of_getElem? (i := 4) rfl))) (fun _ hh => (List.mem_cons_of_mem _ (List.mem_append_right _ (List.mem_append_right _ (List.mem_append_left _ hh))))) gd_m_in) rfl rfl rfl (by decide +kernel) ⟨Nat.le_of_ble_eq_true rfl, Nat.le_of_ble_eq_true rfl⟩) ⟨pw_blind, pw_use hT hK hFc hS hM⟩ rfl rfl hl.1 rfl (lv_room (Nat.le_of_ble_eq_true rfl)) dX12_row_13 ⟨Nat.le_of_ble_eq_true rfl, Nat.le_of_ble_eq_true rfl⟩) hS (fun q _ h => hFc q h) hFc (fun r0 r_5 t H locs ht hvm hw hB hz1 hk1 hS => ?_)
  refine W.widen (k := 0) (n := 0) (Nat.le_of_ble_eq_true rfl) (Nat.le_of_ble_eq_true rfl) ?_
  clear hvm hz1 hk1
  subst hw
  rcases hB with ⟨hre, hf_6, hf_7, hT⟩ | ⟨hre, hf_8, hT⟩
  · refine lq_top (v := 1) hre ?_
    rw [ht] at hT
    try simp only [hp_4] at hf_6 hf_7
    clear hp_4
    refine lv_if_eq (tgt := 28) hx hb dX12_row_16 (by decide) (fun c_9 => absurd c_9 (by decide)) (fun c_9 => ?_)
    refine lv_aload_n hx hb dX12_row_19 rfl (lv_at hl 0 rfl) ?_
    refine tw_get (D := (dC, dI)) (v := .ref (a 86)) (C := RX12) (T := TX12) (N := 58) hx hb hts (fun _ hh => (List.mem_cons_of_mem _ (List.mem_append_right _ (List.mem_append_left _ hh)))) hown hK hT (fx_50 hX) (by decide) cl_e60 rfl 35 (by decide) (hts (.fieldLink RX12 104 "TypingPoolModel" "row" "[I") (List.mem_cons_of_mem _ (List.mem_append_left _ (List.mem_of_getElem? (i := 5) rfl)))) (fun _ h9 => h9) rfl dX12_row_20 ?_
    refine lv_iload_n hx hb dX12_row_23 rfl (lv_at hl 1 rfl) ?_
    refine tw_iald hx hb hK hT 0 (fx_86 hX) (by decide) cl_e96 rfl (z_in rfl (by omega) (by omega)) dX12_row_24 ?_
    refine lv_goto (tgt := 32) hx hb dX12_row_25 (by decide) ?_
    exact W.iret (v := y_1 (a 86) p0.toNatClampNeg) hx hb hr (fun t ht hW9 => ⟨⟨y_1 (a 86) p0.toNatClampNeg, y_1 (a 86) p0.toNatClampNeg, rfl, rfl, ⟨y_1, g, hG, hGg, hI, tw_at ht hT⟩⟩, hS.F ht⟩) hS.2.2 dX12_row_32
  · refine lq_top (v := 0) hre ?_
    rw [ht] at hT
    try simp only [hp_4] at hf_8
    clear hp_4
    refine lv_if_eq (tgt := 28) hx hb dX12_row_16 (by decide) (fun c_10 => ?_) (fun c_10 => absurd c_10 (by decide))
    refine lv_aload_n hx hb dX12_row_28 rfl (lv_at hl 0 rfl) ?_
    have hFc := tw_free hF hS hA
    refine va_calli (va_runV (As := []) (rest := []) ⟨hx, hb, hml, hown, hts⟩ (m_lost l dC dI ad av H.size a k τ ln y_1 g u  hI hW) (cwV 0 hts (gi_4 (List.mem_cons_of_mem _ (List.mem_append_left _ (List.mem_of_getElem? (i := 6) rfl))) (List.mem_cons_of_mem _ (List.mem_append_left _ (List.mem_of_getElem? (i := 7) rfl))) (List.mem_cons_of_mem _ (List.mem_append_left _ (List.mem_of_getElem? (i := 8) rfl))) (List.mem_cons_of_mem _ (List.mem_append_left _ (List.mem_of_getElem? (i := 4) rfl))) (fun _ hh => (List.mem_cons_of_mem _ (List.mem_append_right _ (List.mem_append_right _ (List.mem_append_right _ (List.mem_append_left _ hh)))))) gd_m_lost) rfl rfl rfl (by decide +kernel) ⟨Nat.le_of_ble_eq_true rfl, Nat.le_of_ble_eq_true rfl⟩) ⟨pw_blind, tw_recv hK hT (fx_50 hX) (by decide) cl_e60 rfl, pw_use hT hK hFc hS hM⟩ rfl rfl hl.1 rfl (lv_room (Nat.le_of_ble_eq_true rfl)) dX12_row_29 ⟨Nat.le_of_ble_eq_true rfl, Nat.le_of_ble_eq_true rfl⟩) hS (fun q _ h => hFc q h) hFc (fun r0 r_11 t H locs ht hvm hw hB hz1 hk1 hS => ?_)
    refine W.widen (k := 0) (n := 0) (Nat.le_of_ble_eq_true rfl) (Nat.le_of_ble_eq_true rfl) ?_
    clear hvm hz1 hk1
    subst hw
    obtain ⟨y_12, hgy_12, hI, hT⟩ := hB
    rw [ht] at hT
    have hG := hG.tr hgy_12 (by decide)
    have hW : IW (u 1) (u 2) (u 9) (y_12 (a 89)) := by rw [hgy_12.at (fx_89 hX) (by decide)]; exact hW
    clear hc_2
    exact W.iret (v := r_11) hx hb hr (fun t ht hW9 => ⟨⟨r_11, r_11, rfl, rfl, ⟨y_12, g, hG, hGg, hI, tw_at ht hT⟩⟩, hS.F ht⟩) hS.2.2 dX12_row_32
def wo_m_undo : List Cond := [.fieldLink RX12 139 "TypingPoolModel" "thrown" "I", .fieldLink RX12 321 "TypingPoolModel" "corrections" "I", .methodLink RX12 145 yX12_in, .static yX12_in, .initialized RX12, .fieldLink RX12 88 "TypingPoolModel" "undoneDay" "[I"]
def wm_m_undo : List Cond := .code yX12_undo cX12_undo 3 (some .boolean) :: (wo_m_undo ++ (wsX120 ++ (wm_m_in ++ ([] : List Cond))))
theorem gd_m_undo : ∀ w ∈ wm_m_undo, goodWord w = true := gd_c rfl (gd_a (by decide) (gd_a gd_wsX120 (gd_a gd_m_in gd_nil)))
set_option maxRecDepth 20000 in
theorem im_m_undo : ∀ w ∈ wm_m_undo, w ∈ lw_tbl := im_c (in_r [.code yX12_undo cX12_undo 3 (some .boolean)] [1631] (by decide +kernel)) (in_app (in_r wo_m_undo [1278, 1271, 1420, 1421, 86, 1269] (by decide +kernel)) (in_app im_wsX120 (in_app im_m_in im_nil)))
set_option maxHeartbeats 4000000 in
set_option maxRecDepth 100000 in
theorem m_undo (l : Launch) (dC : Nat → ClassId) (dI : Nat → Nat → Nat) (ad av : Nat → Nat) (sz : Nat) (a : Nat → Nat) (k : Nat → ClassId) (τ ln : Nat → Nat) (y : Nat → Nat → Int32) (g : Nat → Nat → Option Nat) (u : Nat → Int) (p0 : Int32) (p1 : Int32) (hI : IM a u τ y) (hW : IW (u 1) (u 2) (u 9) (y (a 89))) : Met l yX12_undo wm_m_undo ({ frames := 1, cells := 0, slots := 0, locals := 60 }) (pw_ ad av (dC, dI) sz [.ref (a 50), .int p0, .int p1] a k τ ln y g) (va_Qi (fun (r u : Int32) => u = r) (fun (r : Int32) (t : State) => (∃ (y' : Nat → Nat → Int32) (g' : Nat → Nat → Option Nat), r = 1 ∧ ag τ [60, 89] y y' ∧ agg τ g g' ∧ IM a u τ y' ∧ tw (dC, dI) a k τ ln y' g' t.heap) ∨ (∃ (y' : Nat → Nat → Int32) (g' : Nat → Nat → Option Nat), r = 0 ∧ ag τ [60, 89] y y' ∧ agg τ g g' ∧ IM a u τ y' ∧ tw (dC, dI) a k τ ln y' g' t.heap)) (fr τ sz)) 0 0 (fr τ sz) := by
  refine Met.ofW (cc := cX12_undo) (maxL := 3) (ret := (some .boolean)) (by decide) rfl ?_
  intro p e s m args below meth c s₁ B hml hv
  obtain ⟨rfl, hsz, hT, hK, hM⟩ := hv
  have hx := B.exec
  have hb := B.bytes
  have hr := B.returns
  have hts := atoms_spec (ws := wm_m_undo) B.pre
  have hown : s.vm.findClass RX12 = some m.cls := findClass_of_methodNamed B.named
  have hlocks := B.notSynchronized
  subst hsz
  generalize hAe : fr τ s.heap.size = A at hM ⊢
  have hA : ∀ q : Nat, s.heap.size ≤ q → A q := fun q h => by rw [← hAe]; exact Or.inr h
  have hF : ∀ q, τ q ≠ 0 → A q := fun q h => by rw [← hAe]; exact Or.inl h
  have hS : va_S A s.heap s.heap [] := va_S.rf
  have hX := hI.1
  have hR := im_r hI
  have hG : ag τ [60, 89] y y := ag.rf
  have hGg : agg τ g g := agg.rf
  have hl := lv_entry ([.ref (a 50), .int p0, .int p1]) (n := 3) (Nat.le_of_ble_eq_true rfl)
  rw [lg_entry_eq]
  generalize (lg_sl ([.ref (a 50), .int p0, .int p1]) ++ List.replicate (3 - (lg_sl ([.ref (a 50), .int p0, .int p1])).length) Slot.unset).toArray = ls at hl ⊢
  have hl : lv_has ls 3 [(0, .ref (a 50)), (1, .int p0), (2, .int p1)] := hl
  refine lv_aload_n hx hb dX12_undo_0 rfl (lv_at hl 0 rfl) ?_
  refine lv_iconst (v := 0) hx hb dX12_undo_1 (by decide) ?_
  refine tw_put (D := (dC, dI)) (x := 0) (ty := .int) (C := RX12) (T := TX12) (N := 58) hx hb hts (fun _ hh => (List.mem_cons_of_mem _ (List.mem_append_right _ (List.mem_append_left _ hh)))) tyX12 tyX12_ok nmX12 hown hK hT hF hS (fx_50 hX) (by decide) cl_e60 rfl 37 (by decide) (hts (.fieldLink RX12 139 "TypingPoolModel" "thrown" "I") (List.mem_cons_of_mem _ (List.mem_append_left _ (List.mem_of_getElem? (i := 0) rfl)))) (fun _ h9 => h9) rfl (tyX12_ok 37 (by decide)) rfl rfl (Nat.le_of_ble_eq_true rfl) rfl dX12_undo_2 (fun H locs hT hS => ?_)
  obtain ⟨y_1, hy_1, hT⟩ : ∃ z : Nat → Nat → Int32, z = up2 y (a 50) 37 (0 : Int32) ∧ tw (dC, dI) a k τ ln z g H := ⟨_, rfl, hT⟩
  have hG : ag τ [60, 89] y y_1 := by rw [hy_1]; exact hG.up (fx_50 hX) (by decide)
  have hW : IW (u 1) (u 2) (u 9) (y_1 (a 89)) := by rw [hy_1, up2_o (kd_ne (fx_89 hX) (fx_50 hX) (by decide))]; exact hW
  have hI := hI.put (f := 37) (x := (0 : Int32)) (by decide)
  rw [← hy_1] at hI
  refine lv_iload_n hx hb dX12_undo_5 rfl (lv_at hl 1 rfl) ?_
  refine lv_iconst (v := 0) hx hb dX12_undo_6 (by decide) ?_
  refine lv_aload_n hx hb dX12_undo_7 rfl (lv_at hl 0 rfl) ?_
  refine tw_get (D := (dC, dI)) (v := .int (y_1 (a 50) 30)) (C := RX12) (T := TX12) (N := 58) hx hb hts (fun _ hh => (List.mem_cons_of_mem _ (List.mem_append_right _ (List.mem_append_left _ hh)))) hown hK hT (fx_50 hX) (by decide) cl_e60 rfl 30 (by decide) (hts (.fieldLink RX12 321 "TypingPoolModel" "corrections" "I") (List.mem_cons_of_mem _ (List.mem_append_left _ (List.mem_of_getElem? (i := 1) rfl)))) (fun _ h9 => h9) rfl dX12_undo_8 ?_
  have hc_2 := im_5 hI
  refine lv_iconst (v := 1) hx hb dX12_undo_11 (by decide) ?_
  refine lv_isub hx hb dX12_undo_12 ?_
  refine lv_topi (fun x_3 ex_3 => ?_)
  have hx_3 := z_sub ex_3 hc_2 (zk (x := 1) 1 rfl) (by omega) (by omega)
  have hFc := tw_free hF hS hA
  have hp_4 : (0 : Int32).toInt = 0 := (zk (x := 0) 0 rfl)
  refine va_calli (va_runS (As := [.int p0, .int 0, .int x_3]) (rest := []) ⟨hx, hb, hml, hown, hts⟩ (m_in l dC dI ad av H.size a k τ ln y_1 g u p0 (0 : Int32) x_3  ) (va_cwS 3 hts (gi_3 (List.mem_cons_of_mem _ (List.mem_append_left _ (List.mem_of_getElem? (i := 2) rfl))) (List.mem_cons_of_mem _ (List.mem_append_left _ (List.mem_of_getElem? (i := 3) rfl))) (List.mem_cons_of_mem _ (List.mem_append_left _ (List.mem_of_getElem? (i := 4) rfl))) (fun _ hh => (List.mem_cons_of_mem _ (List.mem_append_right _ (List.mem_append_right _ (List.mem_append_left _ hh))))) gd_m_in) rfl rfl rfl (by decide +kernel) ⟨Nat.le_of_ble_eq_true rfl, Nat.le_of_ble_eq_true rfl⟩) ⟨pw_blind, pw_use hT hK hFc hS hM⟩ rfl rfl hl.1 rfl (lv_room (Nat.le_of_ble_eq_true rfl)) dX12_undo_13 ⟨Nat.le_of_ble_eq_true rfl, Nat.le_of_ble_eq_true rfl⟩) hS (fun q _ h => hFc q h) hFc (fun r0 r_5 t H locs ht hvm hw hB hz1 hk1 hS => ?_)
  refine W.widen (k := 0) (n := 0) (Nat.le_of_ble_eq_true rfl) (Nat.le_of_ble_eq_true rfl) ?_
  clear hvm hz1 hk1
  subst hw
  rcases hB with ⟨hre, hf_6, hf_7, hT⟩ | ⟨hre, hf_8, hT⟩
  · refine lq_top (v := 1) hre ?_
    rw [ht] at hT
    try simp only [hp_4] at hf_6 hf_7
    clear hp_4
    refine lv_if_eq (tgt := 29) hx hb dX12_undo_16 (by decide) (fun c_9 => absurd c_9 (by decide)) (fun c_9 => ?_)
    refine lv_iload_n hx hb dX12_undo_19 rfl (lv_at hl 2 rfl) ?_
    refine lv_iconst (v := 0) hx hb dX12_undo_20 (by decide) ?_
    refine lv_bipush (v := 99) hx hb dX12_undo_21 (by decide) ?_
    have hFc := tw_free hF hS hA
    have hp_10 : (0 : Int32).toInt = 0 := (zk (x := 0) 0 rfl)
    have hp_11 : (99 : Int32).toInt = 99 := (zk (x := 99) 99 rfl)
    refine va_calli (va_runS (As := [.int p1, .int 0, .int 99]) (rest := []) ⟨hx, hb, hml, hown, hts⟩ (m_in l dC dI ad av H.size a k τ ln y_1 g u p1 (0 : Int32) (99 : Int32)  ) (va_cwS 3 hts (gi_3 (List.mem_cons_of_mem _ (List.mem_append_left _ (List.mem_of_getElem? (i := 2) rfl))) (List.mem_cons_of_mem _ (List.mem_append_left _ (List.mem_of_getElem? (i := 3) rfl))) (List.mem_cons_of_mem _ (List.mem_append_left _ (List.mem_of_getElem? (i := 4) rfl))) (fun _ hh => (List.mem_cons_of_mem _ (List.mem_append_right _ (List.mem_append_right _ (List.mem_append_left _ hh))))) gd_m_in) rfl rfl rfl (by decide +kernel) ⟨Nat.le_of_ble_eq_true rfl, Nat.le_of_ble_eq_true rfl⟩) ⟨pw_blind, pw_use hT hK hFc hS hM⟩ rfl rfl hl.1 rfl (lv_room (Nat.le_of_ble_eq_true rfl)) dX12_undo_23 ⟨Nat.le_of_ble_eq_true rfl, Nat.le_of_ble_eq_true rfl⟩) hS (fun q _ h => hFc q h) hFc (fun r0 r_12 t H locs ht hvm hw hB hz1 hk1 hS => ?_)
    refine W.widen (k := 0) (n := 0) (Nat.le_of_ble_eq_true rfl) (Nat.le_of_ble_eq_true rfl) ?_
    clear hvm hz1 hk1
    subst hw
    rcases hB with ⟨hre, hf_13, hf_14, hT⟩ | ⟨hre, hf_15, hT⟩
    · refine lq_top (v := 1) hre ?_
      rw [ht] at hT
      try simp only [hp_10, hp_11] at hf_13 hf_14
      clear hp_10 hp_11
      refine lv_if_ne (tgt := 31) hx hb dX12_undo_26 (by decide) (fun c_16 => ?_) (fun c_16 => absurd c_16 (by decide))
      refine lv_aload_n hx hb dX12_undo_31 rfl (lv_at hl 0 rfl) ?_
      refine tw_get (D := (dC, dI)) (v := .ref (a 79)) (C := RX12) (T := TX12) (N := 58) hx hb hts (fun _ hh => (List.mem_cons_of_mem _ (List.mem_append_right _ (List.mem_append_left _ hh)))) hown hK hT (fx_50 hX) (by decide) cl_e60 rfl 28 (by decide) (hts (.fieldLink RX12 88 "TypingPoolModel" "undoneDay" "[I") (List.mem_cons_of_mem _ (List.mem_append_left _ (List.mem_of_getElem? (i := 5) rfl)))) (fun _ h9 => h9) rfl dX12_undo_32 ?_
      refine lv_iload_n hx hb dX12_undo_35 rfl (lv_at hl 1 rfl) ?_
      refine lv_iload_n hx hb dX12_undo_36 rfl (lv_at hl 2 rfl) ?_
      refine tw_iast hx hb hK hT hF hS 0 (fx_79 hX) (by decide) (fun _ => cl_e89) rfl (z_in rfl (by omega) (by omega)) dX12_undo_37 (fun H locs hT hS => ?_)
      obtain ⟨y_17, hy_17, hT⟩ : ∃ z : Nat → Nat → Int32, z = up2 y_1 (a 79) p0.toNatClampNeg p1 ∧ tw (dC, dI) a k τ ln z g H := ⟨_, rfl, hT⟩
      have hG : ag τ [60, 89] y y_17 := by rw [hy_17]; exact hG.up (fx_79 hX) (by decide)
      have hW : IW (u 1) (u 2) (u 9) (y_17 (a 89)) := by rw [hy_17, up2_o (kd_ne (fx_89 hX) (fx_79 hX) (by decide))]; exact hW
      have hI := hI.ag (S := [89]) (y' := y_17) (by rw [hy_17]; exact ag.one (fx_79 hX)) (by decide)
      clear hc_2
      refine lv_iconst (v := 1) hx hb dX12_undo_38 (by decide) ?_
      exact W.zret (v := 1) hx hb hr (by decide) (fun t ht hW9 => ⟨⟨1, 1, rfl, rfl, Or.inl ⟨y_17, g, rfl, hG, hGg, hI, tw_at ht hT⟩⟩, hS.F ht⟩) hS.2.2 dX12_undo_39
    · refine lq_top (v := 0) hre ?_
      rw [ht] at hT
      try simp only [hp_10, hp_11] at hf_15
      clear hp_10 hp_11
      refine lv_if_ne (tgt := 31) hx hb dX12_undo_26 (by decide) (fun c_18 => absurd c_18 (by decide)) (fun c_18 => ?_)
      refine lv_iconst (v := 0) hx hb dX12_undo_29 (by decide) ?_
      exact W.zret (v := 0) hx hb hr (by decide) (fun t ht hW9 => ⟨⟨0, 0, rfl, rfl, Or.inr (⟨y_1, g, rfl, hG, hGg, hI, tw_at ht hT⟩)⟩, hS.F ht⟩) hS.2.2 dX12_undo_30
  · refine lq_top (v := 0) hre ?_
    rw [ht] at hT
    try simp only [hp_4] at hf_8
    clear hp_4
    refine lv_if_eq (tgt := 29) hx hb dX12_undo_16 (by decide) (fun c_19 => ?_) (fun c_19 => absurd c_19 (by decide))
    refine lv_iconst (v := 0) hx hb dX12_undo_29 (by decide) ?_
    exact W.zret (v := 0) hx hb hr (by decide) (fun t ht hW9 => ⟨⟨0, 0, rfl, rfl, Or.inr (⟨y_1, g, rfl, hG, hGg, hI, tw_at ht hT⟩)⟩, hS.F ht⟩) hS.2.2 dX12_undo_30
def wo_m_slips : List Cond := [.fieldLink RX12 139 "TypingPoolModel" "thrown" "I", .methodLink RX12 315 yX12_isPiece, .instanceMethod yX12_isPiece, .selects RX12 yX12_isPiece yX12_isPiece, .initialized RX12, .methodLink RX12 145 yX12_in, .static yX12_in, .constant RX12 155 (65535), .fieldLink RX12 98 "TypingPoolModel" "slips" "[I"]
def wm_m_slips : List Cond := .code yX12_slips cX12_slips 4 (some .boolean) :: (wo_m_slips ++ (wsX120 ++ (wm_m_isPiece ++ (wm_m_in ++ ([] : List Cond)))))
theorem gd_m_slips : ∀ w ∈ wm_m_slips, goodWord w = true := gd_c rfl (gd_a (by decide) (gd_a gd_wsX120 (gd_a gd_m_isPiece (gd_a gd_m_in gd_nil))))
set_option maxRecDepth 20000 in
theorem im_m_slips : ∀ w ∈ wm_m_slips, w ∈ lw_tbl := im_c (in_r [.code yX12_slips cX12_slips 4 (some .boolean)] [1667] (by decide +kernel)) (in_app (in_r wo_m_slips [1278, 1596, 1598, 55, 86, 1420, 1421, 1427, 1273] (by decide +kernel)) (in_app im_wsX120 (in_app im_m_isPiece (in_app im_m_in im_nil))))
set_option maxHeartbeats 4000000 in
set_option maxRecDepth 100000 in
theorem m_slips (l : Launch) (dC : Nat → ClassId) (dI : Nat → Nat → Nat) (ad av : Nat → Nat) (sz : Nat) (a : Nat → Nat) (k : Nat → ClassId) (τ ln : Nat → Nat) (y : Nat → Nat → Int32) (g : Nat → Nat → Option Nat) (u : Nat → Int) (p0 : Int32) (p1 : Int32) (p2 : Int32) (hI : IM a u τ y) (hW : IW (u 1) (u 2) (u 9) (y (a 89))) : Met l yX12_slips wm_m_slips ({ frames := 2, cells := 0, slots := 0, locals := 120 }) (pw_ ad av (dC, dI) sz [.ref (a 50), .int p0, .int p1, .int p2] a k τ ln y g) (va_Qi (fun (r u : Int32) => u = r) (fun (r : Int32) (t : State) => (∃ (y' : Nat → Nat → Int32) (g' : Nat → Nat → Option Nat), r = 1 ∧ ag τ [60, 93] y y' ∧ agg τ g g' ∧ IM a u τ y' ∧ ((0 ≤ p0.toInt ∧ p0.toInt < u 2 ∧ 0 ≤ p1.toInt ∧ p1.toInt ≤ 1 ∧ 0 ≤ p2.toInt ∧ p2.toInt ≤ 65535)) ∧ y' (a 83) = upd (y (a 83)) (2 * p0.toInt + p1.toInt).toNat p2 ∧ tw (dC, dI) a k τ ln y' g' t.heap) ∨ (∃ (y' : Nat → Nat → Int32) (g' : Nat → Nat → Option Nat), r = 0 ∧ ag τ [60, 93] y y' ∧ agg τ g g' ∧ IM a u τ y' ∧ (¬ (0 ≤ p0.toInt ∧ p0.toInt < u 2 ∧ 0 ≤ p1.toInt ∧ p1.toInt ≤ 1 ∧ 0 ≤ p2.toInt ∧ p2.toInt ≤ 65535)) ∧ y' (a 83) = y (a 83) ∧ tw (dC, dI) a k τ ln y' g' t.heap)) (fr τ sz)) 0 0 (fr τ sz) := by
  refine Met.ofW (cc := cX12_slips) (maxL := 4) (ret := (some .boolean)) (by decide) rfl ?_
  intro p e s m args below meth c s₁ B hml hv
  obtain ⟨rfl, hsz, hT, hK, hM⟩ := hv
  have hx := B.exec
  have hb := B.bytes
  have hr := B.returns
  have hts := atoms_spec (ws := wm_m_slips) B.pre
  have hown : s.vm.findClass RX12 = some m.cls := findClass_of_methodNamed B.named
  have hlocks := B.notSynchronized
  subst hsz
  generalize hAe : fr τ s.heap.size = A at hM ⊢
  have hA : ∀ q : Nat, s.heap.size ≤ q → A q := fun q h => by rw [← hAe]; exact Or.inr h
  have hF : ∀ q, τ q ≠ 0 → A q := fun q h => by rw [← hAe]; exact Or.inl h
  have hS : va_S A s.heap s.heap [] := va_S.rf
  have hX := hI.1
  have hR := im_r hI
  have hG : ag τ [60, 93] y y := ag.rf
  have hGg : agg τ g g := agg.rf
  have hl := lv_entry ([.ref (a 50), .int p0, .int p1, .int p2]) (n := 4) (Nat.le_of_ble_eq_true rfl)
  rw [lg_entry_eq]
  generalize (lg_sl ([.ref (a 50), .int p0, .int p1, .int p2]) ++ List.replicate (4 - (lg_sl ([.ref (a 50), .int p0, .int p1, .int p2])).length) Slot.unset).toArray = ls at hl ⊢
  have hl : lv_has ls 4 [(0, .ref (a 50)), (1, .int p0), (2, .int p1), (3, .int p2)] := hl
  refine lv_aload_n hx hb dX12_slips_0 rfl (lv_at hl 0 rfl) ?_
  refine lv_iconst (v := 0) hx hb dX12_slips_1 (by decide) ?_
  refine tw_put (D := (dC, dI)) (x := 0) (ty := .int) (C := RX12) (T := TX12) (N := 58) hx hb hts (fun _ hh => (List.mem_cons_of_mem _ (List.mem_append_right _ (List.mem_append_left _ hh)))) tyX12 tyX12_ok nmX12 hown hK hT hF hS (fx_50 hX) (by decide) cl_e60 rfl 37 (by decide) (hts (.fieldLink RX12 139 "TypingPoolModel" "thrown" "I") (List.mem_cons_of_mem _ (List.mem_append_left _ (List.mem_of_getElem? (i := 0) rfl)))) (fun _ h9 => h9) rfl (tyX12_ok 37 (by decide)) rfl rfl (Nat.le_of_ble_eq_true rfl) rfl dX12_slips_2 (fun H locs hT hS => ?_)
  obtain ⟨y_1, hy_1, hT⟩ : ∃ z : Nat → Nat → Int32, z = up2 y (a 50) 37 (0 : Int32) ∧ tw (dC, dI) a k τ ln z g H := ⟨_, rfl, hT⟩
  have hG : ag τ [60, 93] y y_1 := by rw [hy_1]; exact hG.up (fx_50 hX) (by decide)
  have hW : IW (u 1) (u 2) (u 9) (y_1 (a 89)) := by rw [hy_1, up2_o (kd_ne (fx_89 hX) (fx_50 hX) (by decide))]; exact hW
  have hI := hI.put (f := 37) (x := (0 : Int32)) (by decide)
  rw [← hy_1] at hI
  refine lv_aload_n hx hb dX12_slips_5 rfl (lv_at hl 0 rfl) ?_
  refine lv_iload_n hx hb dX12_slips_6 rfl (lv_at hl 1 rfl) ?_
  have hFc := tw_free hF hS hA
  refine va_calli (va_runV (As := [.int p0]) (rest := []) ⟨hx, hb, hml, hown, hts⟩ (m_isPiece l dC dI ad av H.size a k τ ln y_1 g u p0 hI hW) (cwV 1 hts (gi_4 (List.mem_cons_of_mem _ (List.mem_append_left _ (List.mem_of_getElem? (i := 1) rfl))) (List.mem_cons_of_mem _ (List.mem_append_left _ (List.mem_of_getElem? (i := 2) rfl))) (List.mem_cons_of_mem _ (List.mem_append_left _ (List.mem_of_getElem? (i := 3) rfl))) (List.mem_cons_of_mem _ (List.mem_append_left _ (List.mem_of_getElem? (i := 4) rfl))) (fun _ hh => (List.mem_cons_of_mem _ (List.mem_append_right _ (List.mem_append_right _ (List.mem_append_left _ hh))))) gd_m_isPiece) rfl rfl rfl (by decide +kernel) ⟨Nat.le_of_ble_eq_true rfl, Nat.le_of_ble_eq_true rfl⟩) ⟨pw_blind, tw_recv hK hT (fx_50 hX) (by decide) cl_e60 rfl, pw_use hT hK hFc hS hM⟩ rfl rfl hl.1 rfl (lv_room (Nat.le_of_ble_eq_true rfl)) dX12_slips_7 ⟨Nat.le_of_ble_eq_true rfl, Nat.le_of_ble_eq_true rfl⟩) hS (fun q _ h => hFc q h) hFc (fun r0 r_2 t H locs ht hvm hw hB hz1 hk1 hS => ?_)
  refine W.widen (k := 0) (n := 0) (Nat.le_of_ble_eq_true rfl) (Nat.le_of_ble_eq_true rfl) ?_
  clear hvm hz1 hk1
  subst hw
  rcases hB with ⟨hre, hf_3, hf_4, hT⟩ | ⟨hre, hf_5, hT⟩
  · refine lq_top (v := 1) hre ?_
    rw [ht] at hT
    refine lv_if_eq (tgt := 32) hx hb dX12_slips_10 (by decide) (fun c_6 => absurd c_6 (by decide)) (fun c_6 => ?_)
    refine lv_iload_n hx hb dX12_slips_13 rfl (lv_at hl 2 rfl) ?_
    refine lv_iconst (v := 0) hx hb dX12_slips_14 (by decide) ?_
    refine lv_iconst (v := 1) hx hb dX12_slips_15 (by decide) ?_
    have hFc := tw_free hF hS hA
    have hp_7 : (0 : Int32).toInt = 0 := (zk (x := 0) 0 rfl)
    have hp_8 : (1 : Int32).toInt = 1 := (zk (x := 1) 1 rfl)
    refine va_calli (va_runS (As := [.int p1, .int 0, .int 1]) (rest := []) ⟨hx, hb, hml, hown, hts⟩ (m_in l dC dI ad av H.size a k τ ln y_1 g u p1 (0 : Int32) (1 : Int32)  ) (va_cwS 3 hts (gi_3 (List.mem_cons_of_mem _ (List.mem_append_left _ (List.mem_of_getElem? (i := 5) rfl))) (List.mem_cons_of_mem _ (List.mem_append_left _ (List.mem_of_getElem? (i := 6) rfl))) (List.mem_cons_of_mem _ (List.mem_append_left _ (List.mem_of_getElem? (i := 4) rfl))) (fun _ hh => (List.mem_cons_of_mem _ (List.mem_append_right _ (List.mem_append_right _ (List.mem_append_right _ (List.mem_append_left _ hh)))))) gd_m_in) rfl rfl rfl (by decide +kernel) ⟨Nat.le_of_ble_eq_true rfl, Nat.le_of_ble_eq_true rfl⟩) ⟨pw_blind, pw_use hT hK hFc hS hM⟩ rfl rfl hl.1 rfl (lv_room (Nat.le_of_ble_eq_true rfl)) dX12_slips_16 ⟨Nat.le_of_ble_eq_true rfl, Nat.le_of_ble_eq_true rfl⟩) hS (fun q _ h => hFc q h) hFc (fun r0 r_9 t H locs ht hvm hw hB hz1 hk1 hS => ?_)
    refine W.widen (k := 0) (n := 0) (Nat.le_of_ble_eq_true rfl) (Nat.le_of_ble_eq_true rfl) ?_
    clear hvm hz1 hk1
    subst hw
    rcases hB with ⟨hre, hf_10, hf_11, hT⟩ | ⟨hre, hf_12, hT⟩
    · refine lq_top (v := 1) hre ?_
      rw [ht] at hT
      try simp only [hp_7, hp_8] at hf_10 hf_11
      clear hp_7 hp_8
      refine lv_if_eq (tgt := 32) hx hb dX12_slips_19 (by decide) (fun c_13 => absurd c_13 (by decide)) (fun c_13 => ?_)
      refine lv_iload_n hx hb dX12_slips_22 rfl (lv_at hl 3 rfl) ?_
      refine lv_iconst (v := 0) hx hb dX12_slips_23 (by decide) ?_
      refine lv_ldc hx hb hown (hts (.constant RX12 155 (65535)) (List.mem_cons_of_mem _ (List.mem_append_left _ (List.mem_of_getElem? (i := 7) rfl)))) dX12_slips_24 ?_
      have hFc := tw_free hF hS hA
      have hp_14 : (0 : Int32).toInt = 0 := (zk (x := 0) 0 rfl)
      have hp_15 : (65535 : Int32).toInt = 65535 := (zk (x := 65535) 65535 rfl)
      refine va_calli (va_runS (As := [.int p2, .int 0, .int 65535]) (rest := []) ⟨hx, hb, hml, hown, hts⟩ (m_in l dC dI ad av H.size a k τ ln y_1 g u p2 (0 : Int32) (65535 : Int32)  ) (va_cwS 3 hts (gi_3 (List.mem_cons_of_mem _ (List.mem_append_left _ (List.mem_of_getElem? (i := 5) rfl))) (List.mem_cons_of_mem _ (List.mem_append_left _ (List.mem_of_getElem? (i := 6) rfl))) (List.mem_cons_of_mem _ (List.mem_append_left _ (List.mem_of_getElem? (i := 4) rfl))) (fun _ hh => (List.mem_cons_of_mem _ (List.mem_append_right _ (List.mem_append_right _ (List.mem_append_right _ (List.mem_append_left _ hh)))))) gd_m_in) rfl rfl rfl (by decide +kernel) ⟨Nat.le_of_ble_eq_true rfl, Nat.le_of_ble_eq_true rfl⟩) ⟨pw_blind, pw_use hT hK hFc hS hM⟩ rfl rfl hl.1 rfl (lv_room (Nat.le_of_ble_eq_true rfl)) dX12_slips_26 ⟨Nat.le_of_ble_eq_true rfl, Nat.le_of_ble_eq_true rfl⟩) hS (fun q _ h => hFc q h) hFc (fun r0 r_16 t H locs ht hvm hw hB hz1 hk1 hS => ?_)
      refine W.widen (k := 0) (n := 0) (Nat.le_of_ble_eq_true rfl) (Nat.le_of_ble_eq_true rfl) ?_
      clear hvm hz1 hk1
      subst hw
      rcases hB with ⟨hre, hf_17, hf_18, hT⟩ | ⟨hre, hf_19, hT⟩
      · refine lq_top (v := 1) hre ?_
        rw [ht] at hT
        try simp only [hp_14, hp_15] at hf_17 hf_18
        clear hp_14 hp_15
        refine lv_if_ne (tgt := 34) hx hb dX12_slips_29 (by decide) (fun c_20 => ?_) (fun c_20 => absurd c_20 (by decide))
        refine lv_aload_n hx hb dX12_slips_34 rfl (lv_at hl 0 rfl) ?_
        refine tw_get (D := (dC, dI)) (v := .ref (a 83)) (C := RX12) (T := TX12) (N := 58) hx hb hts (fun _ hh => (List.mem_cons_of_mem _ (List.mem_append_right _ (List.mem_append_left _ hh)))) hown hK hT (fx_50 hX) (by decide) cl_e60 rfl 32 (by decide) (hts (.fieldLink RX12 98 "TypingPoolModel" "slips" "[I") (List.mem_cons_of_mem _ (List.mem_append_left _ (List.mem_of_getElem? (i := 8) rfl)))) (fun _ h9 => h9) rfl dX12_slips_35 ?_
        refine lv_iconst (v := 2) hx hb dX12_slips_38 (by decide) ?_
        refine lv_iload_n hx hb dX12_slips_39 rfl (lv_at hl 1 rfl) ?_
        refine lv_imul hx hb dX12_slips_40 ?_
        refine lv_topi (fun x_21 ex_21 => ?_)
        have hx_21 := z_mul ex_21 (zk (x := 2) 2 rfl) rfl (by omega) (by omega)
        refine lv_iload_n hx hb dX12_slips_41 rfl (lv_at hl 2 rfl) ?_
        refine lv_iadd hx hb dX12_slips_42 ?_
        refine lv_topi (fun x_22 ex_22 => ?_)
        have hx_22 := z_add ex_22 rfl rfl (by omega) (by omega)
        refine lv_iload_n hx hb dX12_slips_43 rfl (lv_at hl 3 rfl) ?_
        refine tw_iast hx hb hK hT hF hS 0 (fx_83 hX) (by decide) (fun _ => cl_e93) rfl (z_in rfl (by omega) (by omega)) dX12_slips_44 (fun H locs hT hS => ?_)
        obtain ⟨y_23, hy_23, hT⟩ : ∃ z : Nat → Nat → Int32, z = up2 y_1 (a 83) x_22.toNatClampNeg p2 ∧ tw (dC, dI) a k τ ln z g H := ⟨_, rfl, hT⟩
        have hG : ag τ [60, 93] y y_23 := by rw [hy_23]; exact hG.up (fx_83 hX) (by decide)
        have hW : IW (u 1) (u 2) (u 9) (y_23 (a 89)) := by rw [hy_23, up2_o (kd_ne (fx_89 hX) (fx_83 hX) (by decide))]; exact hW
        have hI := hI.ag (S := [93]) (y' := y_23) (by rw [hy_23]; exact ag.one (fx_83 hX)) (by decide)
        refine lv_iconst (v := 1) hx hb dX12_slips_45 (by decide) ?_
        have hrv : (1 : Int32).toInt = 1 := (zk (x := 1) 1 rfl)
        exact W.zret (v := 1) hx hb hr (by decide) (fun t ht hW9 => ⟨⟨1, 1, rfl, rfl, Or.inl ⟨y_23, g, rfl, hG, hGg, hI, by omega, (by rw [hy_23, up2_q, hy_1, up2_o (kd_ne (fx_83 hX) (fx_50 hX) (by decide)), show x_22.toNatClampNeg = (2 * p0.toInt + p1.toInt).toNat from by rw [z_nat (x := x_22) rfl]; omega]), tw_at ht hT⟩⟩, hS.F ht⟩) hS.2.2 dX12_slips_46
      · refine lq_top (v := 0) hre ?_
        rw [ht] at hT
        try simp only [hp_14, hp_15] at hf_19
        clear hp_14 hp_15
        refine lv_if_ne (tgt := 34) hx hb dX12_slips_29 (by decide) (fun c_24 => absurd c_24 (by decide)) (fun c_24 => ?_)
        refine lv_iconst (v := 0) hx hb dX12_slips_32 (by decide) ?_
        have hrv : (0 : Int32).toInt = 0 := (zk (x := 0) 0 rfl)
        exact W.zret (v := 0) hx hb hr (by decide) (fun t ht hW9 => ⟨⟨0, 0, rfl, rfl, Or.inr (⟨y_1, g, rfl, hG, hGg, hI, by omega, (by rw [hy_1, up2_o (kd_ne (fx_83 hX) (fx_50 hX) (by decide))]), tw_at ht hT⟩)⟩, hS.F ht⟩) hS.2.2 dX12_slips_33
    · refine lq_top (v := 0) hre ?_
      rw [ht] at hT
      try simp only [hp_7, hp_8] at hf_12
      clear hp_7 hp_8
      refine lv_if_eq (tgt := 32) hx hb dX12_slips_19 (by decide) (fun c_25 => ?_) (fun c_25 => absurd c_25 (by decide))
      refine lv_iconst (v := 0) hx hb dX12_slips_32 (by decide) ?_
      have hrv : (0 : Int32).toInt = 0 := (zk (x := 0) 0 rfl)
      exact W.zret (v := 0) hx hb hr (by decide) (fun t ht hW9 => ⟨⟨0, 0, rfl, rfl, Or.inr (⟨y_1, g, rfl, hG, hGg, hI, by omega, (by rw [hy_1, up2_o (kd_ne (fx_83 hX) (fx_50 hX) (by decide))]), tw_at ht hT⟩)⟩, hS.F ht⟩) hS.2.2 dX12_slips_33
  · refine lq_top (v := 0) hre ?_
    rw [ht] at hT
    refine lv_if_eq (tgt := 32) hx hb dX12_slips_10 (by decide) (fun c_26 => ?_) (fun c_26 => absurd c_26 (by decide))
    refine lv_iconst (v := 0) hx hb dX12_slips_32 (by decide) ?_
    have hrv : (0 : Int32).toInt = 0 := (zk (x := 0) 0 rfl)
    exact W.zret (v := 0) hx hb hr (by decide) (fun t ht hW9 => ⟨⟨0, 0, rfl, rfl, Or.inr (⟨y_1, g, rfl, hG, hGg, hI, by omega, (by rw [hy_1, up2_o (kd_ne (fx_83 hX) (fx_50 hX) (by decide))]), tw_at ht hT⟩)⟩, hS.F ht⟩) hS.2.2 dX12_slips_33
def wo_m_correct : List Cond := [.fieldLink RX12 139 "TypingPoolModel" "thrown" "I", .methodLink RX12 315 yX12_isPiece, .instanceMethod yX12_isPiece, .selects RX12 yX12_isPiece yX12_isPiece, .initialized RX12, .methodLink RX12 261 yX12_piece, .instanceMethod yX12_piece, .selects RX12 yX12_piece yX12_piece, .methodLink RX12 145 yX12_in, .static yX12_in, .fieldLink RX12 321 "TypingPoolModel" "corrections" "I", .fieldLink RX12 82 "TypingPoolModel" "correctPiece" "[I", .fieldLink RX12 85 "TypingPoolModel" "correctDay" "[I", .fieldLink RX12 88 "TypingPoolModel" "undoneDay" "[I", .fieldLink RX12 91 "TypingPoolModel" "told" "[I"]
def wm_m_correct : List Cond := .code yX12_correct cX12_correct 6 (some .int) :: (wo_m_correct ++ (wsX120 ++ (wm_m_isPiece ++ (wm_m_pieceG ++ (wm_m_in ++ ([] : List Cond))))))
theorem gd_m_correct : ∀ w ∈ wm_m_correct, goodWord w = true := gd_c rfl (gd_a (by decide) (gd_a gd_wsX120 (gd_a gd_m_isPiece (gd_a gd_m_pieceG (gd_a gd_m_in gd_nil)))))
set_option maxRecDepth 20000 in
theorem im_m_correct : ∀ w ∈ wm_m_correct, w ∈ lw_tbl := im_c (in_r [.code yX12_correct cX12_correct 6 (some .int)] [1627] (by decide +kernel)) (in_app (in_r wo_m_correct [1278, 1596, 1598, 55, 86, 1556, 1558, 50, 1420, 1421, 1271, 1267, 1268, 1269, 1270] (by decide +kernel)) (in_app im_wsX120 (in_app im_m_isPiece (in_app im_m_pieceG (in_app im_m_in im_nil)))))
set_option maxHeartbeats 4000000 in
set_option maxRecDepth 100000 in
theorem m_correct (l : Launch) (dC : Nat → ClassId) (dI : Nat → Nat → Nat) (ad av : Nat → Nat) (sz : Nat) (a : Nat → Nat) (k : Nat → ClassId) (τ ln : Nat → Nat) (y : Nat → Nat → Int32) (g : Nat → Nat → Option Nat) (u : Nat → Int) (p0 : Int32) (p1 : Int32) (p2 : Int32) (p3 : Int32) (p4 : Int32) (hI : IM a u τ y) (hW : IW (u 1) (u 2) (u 9) (y (a 89))) : Met l yX12_correct wm_m_correct ({ frames := 2, cells := 0, slots := 0, locals := 120 }) (pw_ ad av (dC, dI) sz [.ref (a 50), .int p0, .int p1, .int p2, .int p3, .int p4] a k τ ln y g) (va_Qi (fun (r u : Int32) => u = r) (fun (r : Int32) (t : State) => (∃ (u' : Nat → Int) (y' : Nat → Nat → Int32) (g' : Nat → Nat → Option Nat), (∀ i, i ∉ ([5] : List Nat) → u' i = u i) ∧ ag τ [60, 87, 88, 89, 90] y y' ∧ agg τ g g' ∧ IM a u' τ y' ∧ tw (dC, dI) a k τ ln y' g' t.heap)) (fr τ sz)) 0 0 (fr τ sz) := by
  refine Met.ofW (cc := cX12_correct) (maxL := 6) (ret := (some .int)) (by decide) rfl ?_
  intro p e s m args below meth c s₁ B hml hv
  obtain ⟨rfl, hsz, hT, hK, hM⟩ := hv
  have hx := B.exec
  have hb := B.bytes
  have hr := B.returns
  have hts := atoms_spec (ws := wm_m_correct) B.pre
  have hown : s.vm.findClass RX12 = some m.cls := findClass_of_methodNamed B.named
  have hlocks := B.notSynchronized
  subst hsz
  generalize hAe : fr τ s.heap.size = A at hM ⊢
  have hA : ∀ q : Nat, s.heap.size ≤ q → A q := fun q h => by rw [← hAe]; exact Or.inr h
  have hF : ∀ q, τ q ≠ 0 → A q := fun q h => by rw [← hAe]; exact Or.inl h
  have hS : va_S A s.heap s.heap [] := va_S.rf
  have hX := hI.1
  have hR := im_r hI
  have hG : ag τ [60, 87, 88, 89, 90] y y := ag.rf
  have hGg : agg τ g g := agg.rf
  have hl := lv_entry ([.ref (a 50), .int p0, .int p1, .int p2, .int p3, .int p4]) (n := 6) (Nat.le_of_ble_eq_true rfl)
  rw [lg_entry_eq]
  generalize (lg_sl ([.ref (a 50), .int p0, .int p1, .int p2, .int p3, .int p4]) ++ List.replicate (6 - (lg_sl ([.ref (a 50), .int p0, .int p1, .int p2, .int p3, .int p4])).length) Slot.unset).toArray = ls at hl ⊢
  have hl : lv_has ls 6 [(0, .ref (a 50)), (1, .int p0), (2, .int p1), (3, .int p2), (4, .int p3), (5, .int p4)] := hl
  refine lv_aload_n hx hb dX12_correct_0 rfl (lv_at hl 0 rfl) ?_
  refine lv_iconst (v := 0) hx hb dX12_correct_1 (by decide) ?_
  refine tw_put (D := (dC, dI)) (x := 0) (ty := .int) (C := RX12) (T := TX12) (N := 58) hx hb hts (fun _ hh => (List.mem_cons_of_mem _ (List.mem_append_right _ (List.mem_append_left _ hh)))) tyX12 tyX12_ok nmX12 hown hK hT hF hS (fx_50 hX) (by decide) cl_e60 rfl 37 (by decide) (hts (.fieldLink RX12 139 "TypingPoolModel" "thrown" "I") (List.mem_cons_of_mem _ (List.mem_append_left _ (List.mem_of_getElem? (i := 0) rfl)))) (fun _ h9 => h9) rfl (tyX12_ok 37 (by decide)) rfl rfl (Nat.le_of_ble_eq_true rfl) rfl dX12_correct_2 (fun H locs hT hS => ?_)
  obtain ⟨y_1, hy_1, hT⟩ : ∃ z : Nat → Nat → Int32, z = up2 y (a 50) 37 (0 : Int32) ∧ tw (dC, dI) a k τ ln z g H := ⟨_, rfl, hT⟩
  have hG : ag τ [60, 87, 88, 89, 90] y y_1 := by rw [hy_1]; exact hG.up (fx_50 hX) (by decide)
  have hW : IW (u 1) (u 2) (u 9) (y_1 (a 89)) := by rw [hy_1, up2_o (kd_ne (fx_89 hX) (fx_50 hX) (by decide))]; exact hW
  have hI := hI.put (f := 37) (x := (0 : Int32)) (by decide)
  rw [← hy_1] at hI
  refine lv_aload_n hx hb dX12_correct_5 rfl (lv_at hl 0 rfl) ?_
  refine lv_iload_n hx hb dX12_correct_6 rfl (lv_at hl 1 rfl) ?_
  have hFc := tw_free hF hS hA
  refine va_calli (va_runV (As := [.int p0]) (rest := []) ⟨hx, hb, hml, hown, hts⟩ (m_isPiece l dC dI ad av H.size a k τ ln y_1 g u p0 hI hW) (cwV 1 hts (gi_4 (List.mem_cons_of_mem _ (List.mem_append_left _ (List.mem_of_getElem? (i := 1) rfl))) (List.mem_cons_of_mem _ (List.mem_append_left _ (List.mem_of_getElem? (i := 2) rfl))) (List.mem_cons_of_mem _ (List.mem_append_left _ (List.mem_of_getElem? (i := 3) rfl))) (List.mem_cons_of_mem _ (List.mem_append_left _ (List.mem_of_getElem? (i := 4) rfl))) (fun _ hh => (List.mem_cons_of_mem _ (List.mem_append_right _ (List.mem_append_right _ (List.mem_append_left _ hh))))) gd_m_isPiece) rfl rfl rfl (by decide +kernel) ⟨Nat.le_of_ble_eq_true rfl, Nat.le_of_ble_eq_true rfl⟩) ⟨pw_blind, tw_recv hK hT (fx_50 hX) (by decide) cl_e60 rfl, pw_use hT hK hFc hS hM⟩ rfl rfl hl.1 rfl (lv_room (Nat.le_of_ble_eq_true rfl)) dX12_correct_7 ⟨Nat.le_of_ble_eq_true rfl, Nat.le_of_ble_eq_true rfl⟩) hS (fun q _ h => hFc q h) hFc (fun r0 r_2 t H locs ht hvm hw hB hz1 hk1 hS => ?_)
  refine W.widen (k := 0) (n := 0) (Nat.le_of_ble_eq_true rfl) (Nat.le_of_ble_eq_true rfl) ?_
  clear hvm hz1 hk1
  subst hw
  rcases hB with ⟨hre, hf_3, hf_4, hT⟩ | ⟨hre, hf_5, hT⟩
  · refine lq_top (v := 1) hre ?_
    rw [ht] at hT
    refine lv_if_eq (tgt := 71) hx hb dX12_correct_10 (by decide) (fun c_6 => absurd c_6 (by decide)) (fun c_6 => ?_)
    refine lv_aload_n hx hb dX12_correct_13 rfl (lv_at hl 0 rfl) ?_
    refine lv_iload_n hx hb dX12_correct_14 rfl (lv_at hl 1 rfl) ?_
    refine lv_iconst (v := 2) hx hb dX12_correct_15 (by decide) ?_
    have hFc := tw_free hF hS hA
    have hp_7 : (2 : Int32).toInt = 2 := (zk (x := 2) 2 rfl)
    refine va_calli (va_runV (As := [.int p0, .int 2]) (rest := []) ⟨hx, hb, hml, hown, hts⟩ (m_pieceG l dC dI ad av H.size a k τ ln y_1 g u p0 (2 : Int32) hI (by omega) (by omega) (by decide) (by decide) hW) (cwV 2 hts (gi_4 (List.mem_cons_of_mem _ (List.mem_append_left _ (List.mem_of_getElem? (i := 5) rfl))) (List.mem_cons_of_mem _ (List.mem_append_left _ (List.mem_of_getElem? (i := 6) rfl))) (List.mem_cons_of_mem _ (List.mem_append_left _ (List.mem_of_getElem? (i := 7) rfl))) (List.mem_cons_of_mem _ (List.mem_append_left _ (List.mem_of_getElem? (i := 4) rfl))) (fun _ hh => (List.mem_cons_of_mem _ (List.mem_append_right _ (List.mem_append_right _ (List.mem_append_right _ (List.mem_append_left _ hh)))))) gd_m_pieceG) rfl rfl rfl (by decide +kernel) ⟨Nat.le_of_ble_eq_true rfl, Nat.le_of_ble_eq_true rfl⟩) ⟨pw_blind, tw_recv hK hT (fx_50 hX) (by decide) cl_e60 rfl, pw_use hT hK hFc hS hM⟩ rfl rfl hl.1 rfl (lv_room (Nat.le_of_ble_eq_true rfl)) dX12_correct_16 ⟨Nat.le_of_ble_eq_true rfl, Nat.le_of_ble_eq_true rfl⟩) hS (fun q _ h => hFc q h) hFc (fun r0 r_8 t H locs ht hvm hw hB hz1 hk1 hS => ?_)
    refine W.widen (k := 0) (n := 0) (Nat.le_of_ble_eq_true rfl) (Nat.le_of_ble_eq_true rfl) ?_
    clear hvm hz1 hk1
    subst hw
    obtain ⟨hf_9, hT⟩ := hB
    rw [ht] at hT
    try simp only [hp_7] at hf_9
    clear hp_7
    refine lv_iconst (v := (-1)) hx hb dX12_correct_19 (by decide) ?_
    refine lv_icmp_eq (tgt := 71) hx hb dX12_correct_20 (by decide) (fun c_10 => ?_) (fun c_10 => ?_)
    · have nc_10 := z_eq rfl (zk (x := (-1)) (-1) rfl) c_10
      refine lv_iconst (v := (-1)) hx hb dX12_correct_71 (by decide) ?_
      exact W.iret (v := (-1)) hx hb hr (fun t ht hW9 => ⟨⟨(-1), (-1), rfl, rfl, ⟨u, y_1, g, fun _ _ => rfl, hG, hGg, hI, tw_at ht hT⟩⟩, hS.F ht⟩) hS.2.2 dX12_correct_72
    · have nc_10 := z_ne rfl (zk (x := (-1)) (-1) rfl) c_10
      refine lv_iload_n hx hb dX12_correct_23 rfl (lv_at hl 2 rfl) ?_
      refine lv_iconst (v := 0) hx hb dX12_correct_24 (by decide) ?_
      refine lv_bipush (v := 99) hx hb dX12_correct_25 (by decide) ?_
      have hFc := tw_free hF hS hA
      have hp_11 : (0 : Int32).toInt = 0 := (zk (x := 0) 0 rfl)
      have hp_12 : (99 : Int32).toInt = 99 := (zk (x := 99) 99 rfl)
      refine va_calli (va_runS (As := [.int p1, .int 0, .int 99]) (rest := []) ⟨hx, hb, hml, hown, hts⟩ (m_in l dC dI ad av H.size a k τ ln y_1 g u p1 (0 : Int32) (99 : Int32)  ) (va_cwS 3 hts (gi_3 (List.mem_cons_of_mem _ (List.mem_append_left _ (List.mem_of_getElem? (i := 8) rfl))) (List.mem_cons_of_mem _ (List.mem_append_left _ (List.mem_of_getElem? (i := 9) rfl))) (List.mem_cons_of_mem _ (List.mem_append_left _ (List.mem_of_getElem? (i := 4) rfl))) (fun _ hh => (List.mem_cons_of_mem _ (List.mem_append_right _ (List.mem_append_right _ (List.mem_append_right _ (List.mem_append_right _ (List.mem_append_left _ hh))))))) gd_m_in) rfl rfl rfl (by decide +kernel) ⟨Nat.le_of_ble_eq_true rfl, Nat.le_of_ble_eq_true rfl⟩) ⟨pw_blind, pw_use hT hK hFc hS hM⟩ rfl rfl hl.1 rfl (lv_room (Nat.le_of_ble_eq_true rfl)) dX12_correct_27 ⟨Nat.le_of_ble_eq_true rfl, Nat.le_of_ble_eq_true rfl⟩) hS (fun q _ h => hFc q h) hFc (fun r0 r_13 t H locs ht hvm hw hB hz1 hk1 hS => ?_)
      refine W.widen (k := 0) (n := 0) (Nat.le_of_ble_eq_true rfl) (Nat.le_of_ble_eq_true rfl) ?_
      clear hvm hz1 hk1
      subst hw
      rcases hB with ⟨hre, hf_14, hf_15, hT⟩ | ⟨hre, hf_16, hT⟩
      · refine lq_top (v := 1) hre ?_
        rw [ht] at hT
        try simp only [hp_11, hp_12] at hf_14 hf_15
        clear hp_11 hp_12
        refine lv_if_eq (tgt := 71) hx hb dX12_correct_30 (by decide) (fun c_17 => absurd c_17 (by decide)) (fun c_17 => ?_)
        refine lv_iload_n hx hb dX12_correct_33 rfl (lv_at hl 3 rfl) ?_
        refine lv_iconst (v := 0) hx hb dX12_correct_34 (by decide) ?_
        refine lv_iconst (v := 1) hx hb dX12_correct_35 (by decide) ?_
        have hFc := tw_free hF hS hA
        have hp_18 : (0 : Int32).toInt = 0 := (zk (x := 0) 0 rfl)
        have hp_19 : (1 : Int32).toInt = 1 := (zk (x := 1) 1 rfl)
        refine va_calli (va_runS (As := [.int p2, .int 0, .int 1]) (rest := []) ⟨hx, hb, hml, hown, hts⟩ (m_in l dC dI ad av H.size a k τ ln y_1 g u p2 (0 : Int32) (1 : Int32)  ) (va_cwS 3 hts (gi_3 (List.mem_cons_of_mem _ (List.mem_append_left _ (List.mem_of_getElem? (i := 8) rfl))) (List.mem_cons_of_mem _ (List.mem_append_left _ (List.mem_of_getElem? (i := 9) rfl))) (List.mem_cons_of_mem _ (List.mem_append_left _ (List.mem_of_getElem? (i := 4) rfl))) (fun _ hh => (List.mem_cons_of_mem _ (List.mem_append_right _ (List.mem_append_right _ (List.mem_append_right _ (List.mem_append_right _ (List.mem_append_left _ hh))))))) gd_m_in) rfl rfl rfl (by decide +kernel) ⟨Nat.le_of_ble_eq_true rfl, Nat.le_of_ble_eq_true rfl⟩) ⟨pw_blind, pw_use hT hK hFc hS hM⟩ rfl rfl hl.1 rfl (lv_room (Nat.le_of_ble_eq_true rfl)) dX12_correct_36 ⟨Nat.le_of_ble_eq_true rfl, Nat.le_of_ble_eq_true rfl⟩) hS (fun q _ h => hFc q h) hFc (fun r0 r_20 t H locs ht hvm hw hB hz1 hk1 hS => ?_)
        refine W.widen (k := 0) (n := 0) (Nat.le_of_ble_eq_true rfl) (Nat.le_of_ble_eq_true rfl) ?_
        clear hvm hz1 hk1
        subst hw
        rcases hB with ⟨hre, hf_21, hf_22, hT⟩ | ⟨hre, hf_23, hT⟩
        · refine lq_top (v := 1) hre ?_
          rw [ht] at hT
          try simp only [hp_18, hp_19] at hf_21 hf_22
          clear hp_18 hp_19
          refine lv_if_eq (tgt := 71) hx hb dX12_correct_39 (by decide) (fun c_24 => absurd c_24 (by decide)) (fun c_24 => ?_)
          refine lv_iload hx hb dX12_correct_42 (lv_at hl 4 rfl) ?_
          refine lv_iconst (v := 0) hx hb dX12_correct_44 (by decide) ?_
          refine lv_iconst (v := 1) hx hb dX12_correct_45 (by decide) ?_
          have hFc := tw_free hF hS hA
          have hp_25 : (0 : Int32).toInt = 0 := (zk (x := 0) 0 rfl)
          have hp_26 : (1 : Int32).toInt = 1 := (zk (x := 1) 1 rfl)
          refine va_calli (va_runS (As := [.int p3, .int 0, .int 1]) (rest := []) ⟨hx, hb, hml, hown, hts⟩ (m_in l dC dI ad av H.size a k τ ln y_1 g u p3 (0 : Int32) (1 : Int32)  ) (va_cwS 3 hts (gi_3 (List.mem_cons_of_mem _ (List.mem_append_left _ (List.mem_of_getElem? (i := 8) rfl))) (List.mem_cons_of_mem _ (List.mem_append_left _ (List.mem_of_getElem? (i := 9) rfl))) (List.mem_cons_of_mem _ (List.mem_append_left _ (List.mem_of_getElem? (i := 4) rfl))) (fun _ hh => (List.mem_cons_of_mem _ (List.mem_append_right _ (List.mem_append_right _ (List.mem_append_right _ (List.mem_append_right _ (List.mem_append_left _ hh))))))) gd_m_in) rfl rfl rfl (by decide +kernel) ⟨Nat.le_of_ble_eq_true rfl, Nat.le_of_ble_eq_true rfl⟩) ⟨pw_blind, pw_use hT hK hFc hS hM⟩ rfl rfl hl.1 rfl (lv_room (Nat.le_of_ble_eq_true rfl)) dX12_correct_46 ⟨Nat.le_of_ble_eq_true rfl, Nat.le_of_ble_eq_true rfl⟩) hS (fun q _ h => hFc q h) hFc (fun r0 r_27 t H locs ht hvm hw hB hz1 hk1 hS => ?_)
          refine W.widen (k := 0) (n := 0) (Nat.le_of_ble_eq_true rfl) (Nat.le_of_ble_eq_true rfl) ?_
          clear hvm hz1 hk1
          subst hw
          rcases hB with ⟨hre, hf_28, hf_29, hT⟩ | ⟨hre, hf_30, hT⟩
          · refine lq_top (v := 1) hre ?_
            rw [ht] at hT
            try simp only [hp_25, hp_26] at hf_28 hf_29
            clear hp_25 hp_26
            refine lv_if_eq (tgt := 71) hx hb dX12_correct_49 (by decide) (fun c_31 => absurd c_31 (by decide)) (fun c_31 => ?_)
            refine lv_iload hx hb dX12_correct_52 (lv_at hl 5 rfl) ?_
            refine lv_iconst (v := 0) hx hb dX12_correct_54 (by decide) ?_
            refine lv_iconst (v := 1) hx hb dX12_correct_55 (by decide) ?_
            have hFc := tw_free hF hS hA
            have hp_32 : (0 : Int32).toInt = 0 := (zk (x := 0) 0 rfl)
            have hp_33 : (1 : Int32).toInt = 1 := (zk (x := 1) 1 rfl)
            refine va_calli (va_runS (As := [.int p4, .int 0, .int 1]) (rest := []) ⟨hx, hb, hml, hown, hts⟩ (m_in l dC dI ad av H.size a k τ ln y_1 g u p4 (0 : Int32) (1 : Int32)  ) (va_cwS 3 hts (gi_3 (List.mem_cons_of_mem _ (List.mem_append_left _ (List.mem_of_getElem? (i := 8) rfl))) (List.mem_cons_of_mem _ (List.mem_append_left _ (List.mem_of_getElem? (i := 9) rfl))) (List.mem_cons_of_mem _ (List.mem_append_left _ (List.mem_of_getElem? (i := 4) rfl))) (fun _ hh => (List.mem_cons_of_mem _ (List.mem_append_right _ (List.mem_append_right _ (List.mem_append_right _ (List.mem_append_right _ (List.mem_append_left _ hh))))))) gd_m_in) rfl rfl rfl (by decide +kernel) ⟨Nat.le_of_ble_eq_true rfl, Nat.le_of_ble_eq_true rfl⟩) ⟨pw_blind, pw_use hT hK hFc hS hM⟩ rfl rfl hl.1 rfl (lv_room (Nat.le_of_ble_eq_true rfl)) dX12_correct_56 ⟨Nat.le_of_ble_eq_true rfl, Nat.le_of_ble_eq_true rfl⟩) hS (fun q _ h => hFc q h) hFc (fun r0 r_34 t H locs ht hvm hw hB hz1 hk1 hS => ?_)
            refine W.widen (k := 0) (n := 0) (Nat.le_of_ble_eq_true rfl) (Nat.le_of_ble_eq_true rfl) ?_
            clear hvm hz1 hk1
            subst hw
            rcases hB with ⟨hre, hf_35, hf_36, hT⟩ | ⟨hre, hf_37, hT⟩
            · refine lq_top (v := 1) hre ?_
              rw [ht] at hT
              try simp only [hp_32, hp_33] at hf_35 hf_36
              clear hp_32 hp_33
              refine lv_if_eq (tgt := 71) hx hb dX12_correct_59 (by decide) (fun c_38 => absurd c_38 (by decide)) (fun c_38 => ?_)
              refine lv_aload_n hx hb dX12_correct_62 rfl (lv_at hl 0 rfl) ?_
              refine tw_get (D := (dC, dI)) (v := .int (y_1 (a 50) 30)) (C := RX12) (T := TX12) (N := 58) hx hb hts (fun _ hh => (List.mem_cons_of_mem _ (List.mem_append_right _ (List.mem_append_left _ hh)))) hown hK hT (fx_50 hX) (by decide) cl_e60 rfl 30 (by decide) (hts (.fieldLink RX12 321 "TypingPoolModel" "corrections" "I") (List.mem_cons_of_mem _ (List.mem_append_left _ (List.mem_of_getElem? (i := 10) rfl)))) (fun _ h9 => h9) rfl dX12_correct_63 ?_
              have hc_39 := im_5 hI
              refine lv_bipush (v := 40) hx hb dX12_correct_66 (by decide) ?_
              refine lv_icmp_ne (tgt := 73) hx hb dX12_correct_68 (by decide) (fun c_40 => ?_) (fun c_40 => ?_)
              · have nc_40 := z_ne hc_39 (zk (x := 40) 40 rfl) c_40
                refine lv_aload_n hx hb dX12_correct_73 rfl (lv_at hl 0 rfl) ?_
                refine tw_get (D := (dC, dI)) (v := .ref (a 77)) (C := RX12) (T := TX12) (N := 58) hx hb hts (fun _ hh => (List.mem_cons_of_mem _ (List.mem_append_right _ (List.mem_append_left _ hh)))) hown hK hT (fx_50 hX) (by decide) cl_e60 rfl 26 (by decide) (hts (.fieldLink RX12 82 "TypingPoolModel" "correctPiece" "[I") (List.mem_cons_of_mem _ (List.mem_append_left _ (List.mem_of_getElem? (i := 11) rfl)))) (fun _ h9 => h9) rfl dX12_correct_74 ?_
                refine lv_aload_n hx hb dX12_correct_77 rfl (lv_at hl 0 rfl) ?_
                refine tw_get (D := (dC, dI)) (v := .int (y_1 (a 50) 30)) (C := RX12) (T := TX12) (N := 58) hx hb hts (fun _ hh => (List.mem_cons_of_mem _ (List.mem_append_right _ (List.mem_append_left _ hh)))) hown hK hT (fx_50 hX) (by decide) cl_e60 rfl 30 (by decide) (hts (.fieldLink RX12 321 "TypingPoolModel" "corrections" "I") (List.mem_cons_of_mem _ (List.mem_append_left _ (List.mem_of_getElem? (i := 10) rfl)))) (fun _ h9 => h9) rfl dX12_correct_78 ?_
                have hc_41 := im_5 hI
                refine lv_iload_n hx hb dX12_correct_81 rfl (lv_at hl 1 rfl) ?_
                have hbd_42 : 0 ≤ u 5 ∧ u 5 < 40 := by omega
                refine tw_iast hx hb hK hT hF hS 0 (fx_77 hX) (by decide) (fun _ => cl_e87) rfl (z_in hc_41 hbd_42.1 hbd_42.2) dX12_correct_82 (fun H locs hT hS => ?_)
                obtain ⟨y_43, hy_43, hT⟩ : ∃ z : Nat → Nat → Int32, z = up2 y_1 (a 77) ((y_1 (a 50) 30).toNatClampNeg) p0 ∧ tw (dC, dI) a k τ ln z g H := ⟨_, rfl, hT⟩
                have hG : ag τ [60, 87, 88, 89, 90] y y_43 := by rw [hy_43]; exact hG.up (fx_77 hX) (by decide)
                have hW : IW (u 1) (u 2) (u 9) (y_43 (a 89)) := by rw [hy_43, up2_o (kd_ne (fx_89 hX) (fx_77 hX) (by decide))]; exact hW
                have hIold := hI
                have hI := hI.o77 (x := p0) (i := (y_1 (a 50) 30)) hc_41
                rw [← hy_43] at hI
                have hvb_44 : vb (u 5 + 1) 0 29 (y_43 (a 77)) := by rw [hy_43, up2_q]; exact vb_up (im_a77 hIold) hc_41 (by omega) rfl (by omega) (by omega)
                clear hc_39 hc_41
                refine lv_aload_n hx hb dX12_correct_83 rfl (lv_at hl 0 rfl) ?_
                refine tw_get (D := (dC, dI)) (v := .ref (a 78)) (C := RX12) (T := TX12) (N := 58) hx hb hts (fun _ hh => (List.mem_cons_of_mem _ (List.mem_append_right _ (List.mem_append_left _ hh)))) hown hK hT (fx_50 hX) (by decide) cl_e60 rfl 27 (by decide) (hts (.fieldLink RX12 85 "TypingPoolModel" "correctDay" "[I") (List.mem_cons_of_mem _ (List.mem_append_left _ (List.mem_of_getElem? (i := 12) rfl)))) (fun _ h9 => h9) rfl dX12_correct_84 ?_
                refine lv_aload_n hx hb dX12_correct_87 rfl (lv_at hl 0 rfl) ?_
                refine tw_get (D := (dC, dI)) (v := .int (y_43 (a 50) 30)) (C := RX12) (T := TX12) (N := 58) hx hb hts (fun _ hh => (List.mem_cons_of_mem _ (List.mem_append_right _ (List.mem_append_left _ hh)))) hown hK hT (fx_50 hX) (by decide) cl_e60 rfl 30 (by decide) (hts (.fieldLink RX12 321 "TypingPoolModel" "corrections" "I") (List.mem_cons_of_mem _ (List.mem_append_left _ (List.mem_of_getElem? (i := 10) rfl)))) (fun _ h9 => h9) rfl dX12_correct_88 ?_
                have hc_45 := im_5 hI
                refine lv_iload_n hx hb dX12_correct_91 rfl (lv_at hl 2 rfl) ?_
                refine tw_iast hx hb hK hT hF hS 0 (fx_78 hX) (by decide) (fun _ => cl_e88) rfl (z_in hc_45 hbd_42.1 hbd_42.2) dX12_correct_92 (fun H locs hT hS => ?_)
                obtain ⟨y_46, hy_46, hT⟩ : ∃ z : Nat → Nat → Int32, z = up2 y_43 (a 78) ((y_43 (a 50) 30).toNatClampNeg) p1 ∧ tw (dC, dI) a k τ ln z g H := ⟨_, rfl, hT⟩
                have hG : ag τ [60, 87, 88, 89, 90] y y_46 := by rw [hy_46]; exact hG.up (fx_78 hX) (by decide)
                have ha_47 : y_46 (a 77) = y_43 (a 77) := (show y_46 (a 77) = y_43 (a 77) from by rw [hy_46]; exact up2_o (kd_ne (fx_77 hX) (fx_78 hX) (by decide))).trans rfl
                have hW : IW (u 1) (u 2) (u 9) (y_46 (a 89)) := by rw [hy_46, up2_o (kd_ne (fx_89 hX) (fx_78 hX) (by decide))]; exact hW
                have hI := hI.ag (S := [88]) (y' := y_46) (by rw [hy_46]; exact ag.one (fx_78 hX)) (by decide)
                clear hc_45
                refine lv_aload_n hx hb dX12_correct_93 rfl (lv_at hl 0 rfl) ?_
                refine tw_get (D := (dC, dI)) (v := .ref (a 79)) (C := RX12) (T := TX12) (N := 58) hx hb hts (fun _ hh => (List.mem_cons_of_mem _ (List.mem_append_right _ (List.mem_append_left _ hh)))) hown hK hT (fx_50 hX) (by decide) cl_e60 rfl 28 (by decide) (hts (.fieldLink RX12 88 "TypingPoolModel" "undoneDay" "[I") (List.mem_cons_of_mem _ (List.mem_append_left _ (List.mem_of_getElem? (i := 13) rfl)))) (fun _ h9 => h9) rfl dX12_correct_94 ?_
                refine lv_aload_n hx hb dX12_correct_97 rfl (lv_at hl 0 rfl) ?_
                refine tw_get (D := (dC, dI)) (v := .int (y_46 (a 50) 30)) (C := RX12) (T := TX12) (N := 58) hx hb hts (fun _ hh => (List.mem_cons_of_mem _ (List.mem_append_right _ (List.mem_append_left _ hh)))) hown hK hT (fx_50 hX) (by decide) cl_e60 rfl 30 (by decide) (hts (.fieldLink RX12 321 "TypingPoolModel" "corrections" "I") (List.mem_cons_of_mem _ (List.mem_append_left _ (List.mem_of_getElem? (i := 10) rfl)))) (fun _ h9 => h9) rfl dX12_correct_98 ?_
                have hc_48 := im_5 hI
                refine lv_bipush (v := 100) hx hb dX12_correct_101 (by decide) ?_
                refine tw_iast hx hb hK hT hF hS 0 (fx_79 hX) (by decide) (fun _ => cl_e89) rfl (z_in hc_48 hbd_42.1 hbd_42.2) dX12_correct_103 (fun H locs hT hS => ?_)
                obtain ⟨y_49, hy_49, hT⟩ : ∃ z : Nat → Nat → Int32, z = up2 y_46 (a 79) ((y_46 (a 50) 30).toNatClampNeg) (100 : Int32) ∧ tw (dC, dI) a k τ ln z g H := ⟨_, rfl, hT⟩
                have hG : ag τ [60, 87, 88, 89, 90] y y_49 := by rw [hy_49]; exact hG.up (fx_79 hX) (by decide)
                have ha_50 : y_49 (a 77) = y_43 (a 77) := (show y_49 (a 77) = y_46 (a 77) from by rw [hy_49]; exact up2_o (kd_ne (fx_77 hX) (fx_79 hX) (by decide))).trans ha_47
                have hW : IW (u 1) (u 2) (u 9) (y_49 (a 89)) := by rw [hy_49, up2_o (kd_ne (fx_89 hX) (fx_79 hX) (by decide))]; exact hW
                have hI := hI.ag (S := [89]) (y' := y_49) (by rw [hy_49]; exact ag.one (fx_79 hX)) (by decide)
                clear hc_48
                refine lv_aload_n hx hb dX12_correct_104 rfl (lv_at hl 0 rfl) ?_
                refine tw_get (D := (dC, dI)) (v := .ref (a 80)) (C := RX12) (T := TX12) (N := 58) hx hb hts (fun _ hh => (List.mem_cons_of_mem _ (List.mem_append_right _ (List.mem_append_left _ hh)))) hown hK hT (fx_50 hX) (by decide) cl_e60 rfl 29 (by decide) (hts (.fieldLink RX12 91 "TypingPoolModel" "told" "[I") (List.mem_cons_of_mem _ (List.mem_append_left _ (List.mem_of_getElem? (i := 14) rfl)))) (fun _ h9 => h9) rfl dX12_correct_105 ?_
                refine lv_iconst (v := 3) hx hb dX12_correct_108 (by decide) ?_
                refine lv_aload_n hx hb dX12_correct_109 rfl (lv_at hl 0 rfl) ?_
                refine tw_get (D := (dC, dI)) (v := .int (y_49 (a 50) 30)) (C := RX12) (T := TX12) (N := 58) hx hb hts (fun _ hh => (List.mem_cons_of_mem _ (List.mem_append_right _ (List.mem_append_left _ hh)))) hown hK hT (fx_50 hX) (by decide) cl_e60 rfl 30 (by decide) (hts (.fieldLink RX12 321 "TypingPoolModel" "corrections" "I") (List.mem_cons_of_mem _ (List.mem_append_left _ (List.mem_of_getElem? (i := 10) rfl)))) (fun _ h9 => h9) rfl dX12_correct_110 ?_
                have hc_51 := im_5 hI
                refine lv_imul hx hb dX12_correct_113 ?_
                refine lv_topi (fun x_52 ex_52 => ?_)
                have hx_52 := z_mul ex_52 (zk (x := 3) 3 rfl) hc_51 (by omega) (by omega)
                refine lv_iload_n hx hb dX12_correct_114 rfl (lv_at hl 3 rfl) ?_
                refine tw_iast hx hb hK hT hF hS 0 (fx_80 hX) (by decide) (fun _ => cl_e90) rfl (z_in rfl (by omega) (by omega)) dX12_correct_115 (fun H locs hT hS => ?_)
                obtain ⟨y_53, hy_53, hT⟩ : ∃ z : Nat → Nat → Int32, z = up2 y_49 (a 80) x_52.toNatClampNeg p2 ∧ tw (dC, dI) a k τ ln z g H := ⟨_, rfl, hT⟩
                have hG : ag τ [60, 87, 88, 89, 90] y y_53 := by rw [hy_53]; exact hG.up (fx_80 hX) (by decide)
                have ha_54 : y_53 (a 77) = y_43 (a 77) := (show y_53 (a 77) = y_49 (a 77) from by rw [hy_53]; exact up2_o (kd_ne (fx_77 hX) (fx_80 hX) (by decide))).trans ha_50
                have hW : IW (u 1) (u 2) (u 9) (y_53 (a 89)) := by rw [hy_53, up2_o (kd_ne (fx_89 hX) (fx_80 hX) (by decide))]; exact hW
                have hI := hI.ag (S := [90]) (y' := y_53) (by rw [hy_53]; exact ag.one (fx_80 hX)) (by decide)
                clear hc_51
                refine lv_aload_n hx hb dX12_correct_116 rfl (lv_at hl 0 rfl) ?_
                refine tw_get (D := (dC, dI)) (v := .ref (a 80)) (C := RX12) (T := TX12) (N := 58) hx hb hts (fun _ hh => (List.mem_cons_of_mem _ (List.mem_append_right _ (List.mem_append_left _ hh)))) hown hK hT (fx_50 hX) (by decide) cl_e60 rfl 29 (by decide) (hts (.fieldLink RX12 91 "TypingPoolModel" "told" "[I") (List.mem_cons_of_mem _ (List.mem_append_left _ (List.mem_of_getElem? (i := 14) rfl)))) (fun _ h9 => h9) rfl dX12_correct_117 ?_
                refine lv_iconst (v := 3) hx hb dX12_correct_120 (by decide) ?_
                refine lv_aload_n hx hb dX12_correct_121 rfl (lv_at hl 0 rfl) ?_
                refine tw_get (D := (dC, dI)) (v := .int (y_53 (a 50) 30)) (C := RX12) (T := TX12) (N := 58) hx hb hts (fun _ hh => (List.mem_cons_of_mem _ (List.mem_append_right _ (List.mem_append_left _ hh)))) hown hK hT (fx_50 hX) (by decide) cl_e60 rfl 30 (by decide) (hts (.fieldLink RX12 321 "TypingPoolModel" "corrections" "I") (List.mem_cons_of_mem _ (List.mem_append_left _ (List.mem_of_getElem? (i := 10) rfl)))) (fun _ h9 => h9) rfl dX12_correct_122 ?_
                have hc_55 := im_5 hI
                refine lv_imul hx hb dX12_correct_125 ?_
                refine lv_topi (fun x_56 ex_56 => ?_)
                have hx_56 := z_mul ex_56 (zk (x := 3) 3 rfl) hc_55 (by omega) (by omega)
                refine lv_iconst (v := 1) hx hb dX12_correct_126 (by decide) ?_
                refine lv_iadd hx hb dX12_correct_127 ?_
                refine lv_topi (fun x_57 ex_57 => ?_)
                have hx_57 := z_add ex_57 rfl (zk (x := 1) 1 rfl) (by omega) (by omega)
                refine lv_iload hx hb dX12_correct_128 (lv_at hl 4 rfl) ?_
                refine tw_iast hx hb hK hT hF hS 0 (fx_80 hX) (by decide) (fun _ => cl_e90) rfl (z_in rfl (by omega) (by omega)) dX12_correct_130 (fun H locs hT hS => ?_)
                obtain ⟨y_58, hy_58, hT⟩ : ∃ z : Nat → Nat → Int32, z = up2 y_53 (a 80) x_57.toNatClampNeg p3 ∧ tw (dC, dI) a k τ ln z g H := ⟨_, rfl, hT⟩
                have hG : ag τ [60, 87, 88, 89, 90] y y_58 := by rw [hy_58]; exact hG.up (fx_80 hX) (by decide)
                have ha_59 : y_58 (a 77) = y_43 (a 77) := (show y_58 (a 77) = y_53 (a 77) from by rw [hy_58]; exact up2_o (kd_ne (fx_77 hX) (fx_80 hX) (by decide))).trans ha_54
                have hW : IW (u 1) (u 2) (u 9) (y_58 (a 89)) := by rw [hy_58, up2_o (kd_ne (fx_89 hX) (fx_80 hX) (by decide))]; exact hW
                have hI := hI.ag (S := [90]) (y' := y_58) (by rw [hy_58]; exact ag.one (fx_80 hX)) (by decide)
                clear hc_55
                refine lv_aload_n hx hb dX12_correct_131 rfl (lv_at hl 0 rfl) ?_
                refine tw_get (D := (dC, dI)) (v := .ref (a 80)) (C := RX12) (T := TX12) (N := 58) hx hb hts (fun _ hh => (List.mem_cons_of_mem _ (List.mem_append_right _ (List.mem_append_left _ hh)))) hown hK hT (fx_50 hX) (by decide) cl_e60 rfl 29 (by decide) (hts (.fieldLink RX12 91 "TypingPoolModel" "told" "[I") (List.mem_cons_of_mem _ (List.mem_append_left _ (List.mem_of_getElem? (i := 14) rfl)))) (fun _ h9 => h9) rfl dX12_correct_132 ?_
                refine lv_iconst (v := 3) hx hb dX12_correct_135 (by decide) ?_
                refine lv_aload_n hx hb dX12_correct_136 rfl (lv_at hl 0 rfl) ?_
                refine tw_get (D := (dC, dI)) (v := .int (y_58 (a 50) 30)) (C := RX12) (T := TX12) (N := 58) hx hb hts (fun _ hh => (List.mem_cons_of_mem _ (List.mem_append_right _ (List.mem_append_left _ hh)))) hown hK hT (fx_50 hX) (by decide) cl_e60 rfl 30 (by decide) (hts (.fieldLink RX12 321 "TypingPoolModel" "corrections" "I") (List.mem_cons_of_mem _ (List.mem_append_left _ (List.mem_of_getElem? (i := 10) rfl)))) (fun _ h9 => h9) rfl dX12_correct_137 ?_
                have hc_60 := im_5 hI
                refine lv_imul hx hb dX12_correct_140 ?_
                refine lv_topi (fun x_61 ex_61 => ?_)
                have hx_61 := z_mul ex_61 (zk (x := 3) 3 rfl) hc_60 (by omega) (by omega)
                refine lv_iconst (v := 2) hx hb dX12_correct_141 (by decide) ?_
                refine lv_iadd hx hb dX12_correct_142 ?_
                refine lv_topi (fun x_62 ex_62 => ?_)
                have hx_62 := z_add ex_62 rfl (zk (x := 2) 2 rfl) (by omega) (by omega)
                refine lv_iload hx hb dX12_correct_143 (lv_at hl 5 rfl) ?_
                refine tw_iast hx hb hK hT hF hS 0 (fx_80 hX) (by decide) (fun _ => cl_e90) rfl (z_in rfl (by omega) (by omega)) dX12_correct_145 (fun H locs hT hS => ?_)
                obtain ⟨y_63, hy_63, hT⟩ : ∃ z : Nat → Nat → Int32, z = up2 y_58 (a 80) x_62.toNatClampNeg p4 ∧ tw (dC, dI) a k τ ln z g H := ⟨_, rfl, hT⟩
                have hG : ag τ [60, 87, 88, 89, 90] y y_63 := by rw [hy_63]; exact hG.up (fx_80 hX) (by decide)
                have ha_64 : y_63 (a 77) = y_43 (a 77) := (show y_63 (a 77) = y_58 (a 77) from by rw [hy_63]; exact up2_o (kd_ne (fx_77 hX) (fx_80 hX) (by decide))).trans ha_59
                have hW : IW (u 1) (u 2) (u 9) (y_63 (a 89)) := by rw [hy_63, up2_o (kd_ne (fx_89 hX) (fx_80 hX) (by decide))]; exact hW
                have hI := hI.ag (S := [90]) (y' := y_63) (by rw [hy_63]; exact ag.one (fx_80 hX)) (by decide)
                clear hc_60
                refine lv_aload_n hx hb dX12_correct_146 rfl (lv_at hl 0 rfl) ?_
                refine lv_dup hx hb dX12_correct_147 rfl ?_
                refine tw_get (D := (dC, dI)) (v := .int (y_63 (a 50) 30)) (C := RX12) (T := TX12) (N := 58) hx hb hts (fun _ hh => (List.mem_cons_of_mem _ (List.mem_append_right _ (List.mem_append_left _ hh)))) hown hK hT (fx_50 hX) (by decide) cl_e60 rfl 30 (by decide) (hts (.fieldLink RX12 321 "TypingPoolModel" "corrections" "I") (List.mem_cons_of_mem _ (List.mem_append_left _ (List.mem_of_getElem? (i := 10) rfl)))) (fun _ h9 => h9) rfl dX12_correct_148 ?_
                have hc_65 := im_5 hI
                refine lv_iconst (v := 1) hx hb dX12_correct_151 (by decide) ?_
                refine lv_iadd hx hb dX12_correct_152 ?_
                refine lv_topi (fun x_66 ex_66 => ?_)
                have hx_66 := z_add ex_66 hc_65 (zk (x := 1) 1 rfl) (by omega) (by omega)
                refine tw_put (D := (dC, dI)) (x := x_66) (ty := .int) (C := RX12) (T := TX12) (N := 58) hx hb hts (fun _ hh => (List.mem_cons_of_mem _ (List.mem_append_right _ (List.mem_append_left _ hh)))) tyX12 tyX12_ok nmX12 hown hK hT hF hS (fx_50 hX) (by decide) cl_e60 rfl 30 (by decide) (hts (.fieldLink RX12 321 "TypingPoolModel" "corrections" "I") (List.mem_cons_of_mem _ (List.mem_append_left _ (List.mem_of_getElem? (i := 10) rfl)))) (fun _ h9 => h9) rfl (tyX12_ok 30 (by decide)) rfl rfl (Nat.le_of_ble_eq_true rfl) rfl dX12_correct_153 (fun H locs hT hS => ?_)
                obtain ⟨y_67, hy_67, hT⟩ : ∃ z : Nat → Nat → Int32, z = up2 y_63 (a 50) 30 x_66 ∧ tw (dC, dI) a k τ ln z g H := ⟨_, rfl, hT⟩
                have hG : ag τ [60, 87, 88, 89, 90] y y_67 := by rw [hy_67]; exact hG.up (fx_50 hX) (by decide)
                have ha_68 : y_67 (a 77) = y_43 (a 77) := (show y_67 (a 77) = y_63 (a 77) from by rw [hy_67]; exact up2_o (kd_ne (fx_77 hX) (fx_50 hX) (by decide))).trans ha_64
                have hW : IW (u 1) (u 2) (u 9) (y_67 (a 89)) := by rw [hy_67, up2_o (kd_ne (fx_89 hX) (fx_50 hX) (by decide))]; exact hW
                have hp_69 : x_66.toInt = x_66.toInt := rfl
                have hI := hI.set5 hp_69 (by omega) (by omega) (by rw [show x_66.toInt = u 5 + 1 from by omega]; exact ((ha_64).symm ▸ hvb_44))
                rw [← hy_67] at hI
                have hW : IW ((upc u 5 x_66.toInt) 1) ((upc u 5 x_66.toInt) 2) ((upc u 5 x_66.toInt) 9) (y_67 (a 89)) := iw_u hW (by simp [upc]) (by simp [upc]) (by simp [upc])
                clear hc_65
                refine lv_aload_n hx hb dX12_correct_156 rfl (lv_at hl 0 rfl) ?_
                refine tw_get (D := (dC, dI)) (v := .int (y_67 (a 50) 30)) (C := RX12) (T := TX12) (N := 58) hx hb hts (fun _ hh => (List.mem_cons_of_mem _ (List.mem_append_right _ (List.mem_append_left _ hh)))) hown hK hT (fx_50 hX) (by decide) cl_e60 rfl 30 (by decide) (hts (.fieldLink RX12 321 "TypingPoolModel" "corrections" "I") (List.mem_cons_of_mem _ (List.mem_append_left _ (List.mem_of_getElem? (i := 10) rfl)))) (fun _ h9 => h9) rfl dX12_correct_157 ?_
                have hc_70 : (y_67 (a 50) 30).toInt = x_66.toInt := by rw [im_5 hI]; simp [upc]
                refine lv_iconst (v := 1) hx hb dX12_correct_160 (by decide) ?_
                refine lv_isub hx hb dX12_correct_161 ?_
                refine lv_topi (fun x_71 ex_71 => ?_)
                have hx_71 := z_sub ex_71 hc_70 (zk (x := 1) 1 rfl) (by omega) (by omega)
                exact W.iret (v := x_71) hx hb hr (fun t ht hW9 => ⟨⟨x_71, x_71, rfl, rfl, ⟨(upc u 5 x_66.toInt), y_67, g, (by intro i hi; simp only [List.mem_cons, List.not_mem_nil, or_false, not_or] at hi; unfold upc; repeat rw [if_neg (by omega)]), hG, hGg, hI, tw_at ht hT⟩⟩, hS.F ht⟩) hS.2.2 dX12_correct_162
              · have nc_40 := z_eq hc_39 (zk (x := 40) 40 rfl) c_40
                refine lv_iconst (v := (-1)) hx hb dX12_correct_71 (by decide) ?_
                exact W.iret (v := (-1)) hx hb hr (fun t ht hW9 => ⟨⟨(-1), (-1), rfl, rfl, ⟨u, y_1, g, fun _ _ => rfl, hG, hGg, hI, tw_at ht hT⟩⟩, hS.F ht⟩) hS.2.2 dX12_correct_72
            · refine lq_top (v := 0) hre ?_
              rw [ht] at hT
              try simp only [hp_32, hp_33] at hf_37
              clear hp_32 hp_33
              refine lv_if_eq (tgt := 71) hx hb dX12_correct_59 (by decide) (fun c_72 => ?_) (fun c_72 => absurd c_72 (by decide))
              refine lv_iconst (v := (-1)) hx hb dX12_correct_71 (by decide) ?_
              exact W.iret (v := (-1)) hx hb hr (fun t ht hW9 => ⟨⟨(-1), (-1), rfl, rfl, ⟨u, y_1, g, fun _ _ => rfl, hG, hGg, hI, tw_at ht hT⟩⟩, hS.F ht⟩) hS.2.2 dX12_correct_72
          · refine lq_top (v := 0) hre ?_
            rw [ht] at hT
            try simp only [hp_25, hp_26] at hf_30
            clear hp_25 hp_26
            refine lv_if_eq (tgt := 71) hx hb dX12_correct_49 (by decide) (fun c_73 => ?_) (fun c_73 => absurd c_73 (by decide))
            refine lv_iconst (v := (-1)) hx hb dX12_correct_71 (by decide) ?_
            exact W.iret (v := (-1)) hx hb hr (fun t ht hW9 => ⟨⟨(-1), (-1), rfl, rfl, ⟨u, y_1, g, fun _ _ => rfl, hG, hGg, hI, tw_at ht hT⟩⟩, hS.F ht⟩) hS.2.2 dX12_correct_72
        · refine lq_top (v := 0) hre ?_
          rw [ht] at hT
          try simp only [hp_18, hp_19] at hf_23
          clear hp_18 hp_19
          refine lv_if_eq (tgt := 71) hx hb dX12_correct_39 (by decide) (fun c_74 => ?_) (fun c_74 => absurd c_74 (by decide))
          refine lv_iconst (v := (-1)) hx hb dX12_correct_71 (by decide) ?_
          exact W.iret (v := (-1)) hx hb hr (fun t ht hW9 => ⟨⟨(-1), (-1), rfl, rfl, ⟨u, y_1, g, fun _ _ => rfl, hG, hGg, hI, tw_at ht hT⟩⟩, hS.F ht⟩) hS.2.2 dX12_correct_72
      · refine lq_top (v := 0) hre ?_
        rw [ht] at hT
        try simp only [hp_11, hp_12] at hf_16
        clear hp_11 hp_12
        refine lv_if_eq (tgt := 71) hx hb dX12_correct_30 (by decide) (fun c_75 => ?_) (fun c_75 => absurd c_75 (by decide))
        refine lv_iconst (v := (-1)) hx hb dX12_correct_71 (by decide) ?_
        exact W.iret (v := (-1)) hx hb hr (fun t ht hW9 => ⟨⟨(-1), (-1), rfl, rfl, ⟨u, y_1, g, fun _ _ => rfl, hG, hGg, hI, tw_at ht hT⟩⟩, hS.F ht⟩) hS.2.2 dX12_correct_72
  · refine lq_top (v := 0) hre ?_
    rw [ht] at hT
    refine lv_if_eq (tgt := 71) hx hb dX12_correct_10 (by decide) (fun c_76 => ?_) (fun c_76 => absurd c_76 (by decide))
    refine lv_iconst (v := (-1)) hx hb dX12_correct_71 (by decide) ?_
    exact W.iret (v := (-1)) hx hb hr (fun t ht hW9 => ⟨⟨(-1), (-1), rfl, rfl, ⟨u, y_1, g, fun _ _ => rfl, hG, hGg, hI, tw_at ht hT⟩⟩, hS.F ht⟩) hS.2.2 dX12_correct_72
def wo_m_as : List Cond := [.fieldLink RX12 139 "TypingPoolModel" "thrown" "I", .methodLink RX12 145 yX12_in, .static yX12_in, .initialized RX12, .fieldLink RX12 94 "TypingPoolModel" "as" "I"]
def wm_m_as : List Cond := .code yX12_as cX12_as 3 (some .int) :: (wo_m_as ++ (wsX120 ++ (wm_m_in ++ ([] : List Cond))))
theorem gd_m_as : ∀ w ∈ wm_m_as, goodWord w = true := gd_c rfl (gd_a (by decide) (gd_a gd_wsX120 (gd_a gd_m_in gd_nil)))
set_option maxRecDepth 20000 in
theorem im_m_as : ∀ w ∈ wm_m_as, w ∈ lw_tbl := im_c (in_r [.code yX12_as cX12_as 3 (some .int)] [1635] (by decide +kernel)) (in_app (in_r wo_m_as [1278, 1420, 1421, 86, 1272] (by decide +kernel)) (in_app im_wsX120 (in_app im_m_in im_nil)))
set_option maxHeartbeats 4000000 in
set_option maxRecDepth 100000 in
theorem m_as (l : Launch) (dC : Nat → ClassId) (dI : Nat → Nat → Nat) (ad av : Nat → Nat) (sz : Nat) (a : Nat → Nat) (k : Nat → ClassId) (τ ln : Nat → Nat) (y : Nat → Nat → Int32) (g : Nat → Nat → Option Nat) (u : Nat → Int) (p0 : Int32) (hI : IM a u τ y) (hW : IW (u 1) (u 2) (u 9) (y (a 89))) : Met l yX12_as wm_m_as ({ frames := 1, cells := 0, slots := 0, locals := 60 }) (pw_ ad av (dC, dI) sz [.ref (a 50), .int p0] a k τ ln y g) (va_Qi (fun (r u : Int32) => u = r) (fun (r : Int32) (t : State) => (∃ (u' : Nat → Int) (y' : Nat → Nat → Int32) (g' : Nat → Nat → Option Nat), r = (-1) ∧ (∀ i, i ∉ ([8] : List Nat) → u' i = u i) ∧ ag τ [60] y y' ∧ agg τ g g' ∧ IM a u' τ y' ∧ (p0.toInt < 0 ∨ 99 < p0.toInt) ∧ u' 8 = u 8 ∧ tw (dC, dI) a k τ ln y' g' t.heap) ∨ (∃ (u' : Nat → Int) (y' : Nat → Nat → Int32) (g' : Nat → Nat → Option Nat), (∀ i, i ∉ ([8] : List Nat) → u' i = u i) ∧ ag τ [60] y y' ∧ agg τ g g' ∧ IM a u' τ y' ∧ (0 ≤ p0.toInt ∧ p0.toInt ≤ 99) ∧ r.toInt = u 8 ∧ u' 8 = p0.toInt ∧ tw (dC, dI) a k τ ln y' g' t.heap)) (fr τ sz)) 0 0 (fr τ sz) := by
  refine Met.ofW (cc := cX12_as) (maxL := 3) (ret := (some .int)) (by decide) rfl ?_
  intro p e s m args below meth c s₁ B hml hv
  obtain ⟨rfl, hsz, hT, hK, hM⟩ := hv
  have hx := B.exec
  have hb := B.bytes
  have hr := B.returns
  have hts := atoms_spec (ws := wm_m_as) B.pre
  have hown : s.vm.findClass RX12 = some m.cls := findClass_of_methodNamed B.named
  have hlocks := B.notSynchronized
  subst hsz
  generalize hAe : fr τ s.heap.size = A at hM ⊢
  have hA : ∀ q : Nat, s.heap.size ≤ q → A q := fun q h => by rw [← hAe]; exact Or.inr h
  have hF : ∀ q, τ q ≠ 0 → A q := fun q h => by rw [← hAe]; exact Or.inl h
  have hS : va_S A s.heap s.heap [] := va_S.rf
  have hX := hI.1
  have hR := im_r hI
  have hG : ag τ [60] y y := ag.rf
  have hGg : agg τ g g := agg.rf
  have hl := lv_entry ([.ref (a 50), .int p0]) (n := 3) (Nat.le_of_ble_eq_true rfl)
  rw [lg_entry_eq]
  generalize (lg_sl ([.ref (a 50), .int p0]) ++ List.replicate (3 - (lg_sl ([.ref (a 50), .int p0])).length) Slot.unset).toArray = ls at hl ⊢
  have hl : lv_has ls 3 [(0, .ref (a 50)), (1, .int p0)] := hl
  refine lv_aload_n hx hb dX12_as_0 rfl (lv_at hl 0 rfl) ?_
  refine lv_iconst (v := 0) hx hb dX12_as_1 (by decide) ?_
  refine tw_put (D := (dC, dI)) (x := 0) (ty := .int) (C := RX12) (T := TX12) (N := 58) hx hb hts (fun _ hh => (List.mem_cons_of_mem _ (List.mem_append_right _ (List.mem_append_left _ hh)))) tyX12 tyX12_ok nmX12 hown hK hT hF hS (fx_50 hX) (by decide) cl_e60 rfl 37 (by decide) (hts (.fieldLink RX12 139 "TypingPoolModel" "thrown" "I") (List.mem_cons_of_mem _ (List.mem_append_left _ (List.mem_of_getElem? (i := 0) rfl)))) (fun _ h9 => h9) rfl (tyX12_ok 37 (by decide)) rfl rfl (Nat.le_of_ble_eq_true rfl) rfl dX12_as_2 (fun H locs hT hS => ?_)
  obtain ⟨y_1, hy_1, hT⟩ : ∃ z : Nat → Nat → Int32, z = up2 y (a 50) 37 (0 : Int32) ∧ tw (dC, dI) a k τ ln z g H := ⟨_, rfl, hT⟩
  have hG : ag τ [60] y y_1 := by rw [hy_1]; exact hG.up (fx_50 hX) (by decide)
  have hW : IW (u 1) (u 2) (u 9) (y_1 (a 89)) := by rw [hy_1, up2_o (kd_ne (fx_89 hX) (fx_50 hX) (by decide))]; exact hW
  have hI := hI.put (f := 37) (x := (0 : Int32)) (by decide)
  rw [← hy_1] at hI
  refine lv_iload_n hx hb dX12_as_5 rfl (lv_at hl 1 rfl) ?_
  refine lv_iconst (v := 0) hx hb dX12_as_6 (by decide) ?_
  refine lv_bipush (v := 99) hx hb dX12_as_7 (by decide) ?_
  have hFc := tw_free hF hS hA
  have hp_2 : (0 : Int32).toInt = 0 := (zk (x := 0) 0 rfl)
  have hp_3 : (99 : Int32).toInt = 99 := (zk (x := 99) 99 rfl)
  refine va_calli (va_runS (As := [.int p0, .int 0, .int 99]) (rest := []) ⟨hx, hb, hml, hown, hts⟩ (m_in l dC dI ad av H.size a k τ ln y_1 g u p0 (0 : Int32) (99 : Int32)  ) (va_cwS 3 hts (gi_3 (List.mem_cons_of_mem _ (List.mem_append_left _ (List.mem_of_getElem? (i := 1) rfl))) (List.mem_cons_of_mem _ (List.mem_append_left _ (List.mem_of_getElem? (i := 2) rfl))) (List.mem_cons_of_mem _ (List.mem_append_left _ (List.mem_of_getElem? (i := 3) rfl))) (fun _ hh => (List.mem_cons_of_mem _ (List.mem_append_right _ (List.mem_append_right _ (List.mem_append_left _ hh))))) gd_m_in) rfl rfl rfl (by decide +kernel) ⟨Nat.le_of_ble_eq_true rfl, Nat.le_of_ble_eq_true rfl⟩) ⟨pw_blind, pw_use hT hK hFc hS hM⟩ rfl rfl hl.1 rfl (lv_room (Nat.le_of_ble_eq_true rfl)) dX12_as_9 ⟨Nat.le_of_ble_eq_true rfl, Nat.le_of_ble_eq_true rfl⟩) hS (fun q _ h => hFc q h) hFc (fun r0 r_4 t H locs ht hvm hw hB hz1 hk1 hS => ?_)
  refine W.widen (k := 0) (n := 0) (Nat.le_of_ble_eq_true rfl) (Nat.le_of_ble_eq_true rfl) ?_
  clear hvm hz1 hk1
  subst hw
  rcases hB with ⟨hre, hf_5, hf_6, hT⟩ | ⟨hre, hf_7, hT⟩
  · refine lq_top (v := 1) hre ?_
    rw [ht] at hT
    try simp only [hp_2, hp_3] at hf_5 hf_6
    clear hp_2 hp_3
    refine lv_if_ne (tgt := 17) hx hb dX12_as_12 (by decide) (fun c_8 => ?_) (fun c_8 => absurd c_8 (by decide))
    refine lv_aload_n hx hb dX12_as_17 rfl (lv_at hl 0 rfl) ?_
    refine tw_get (D := (dC, dI)) (v := .int (y_1 (a 50) 31)) (C := RX12) (T := TX12) (N := 58) hx hb hts (fun _ hh => (List.mem_cons_of_mem _ (List.mem_append_right _ (List.mem_append_left _ hh)))) hown hK hT (fx_50 hX) (by decide) cl_e60 rfl 31 (by decide) (hts (.fieldLink RX12 94 "TypingPoolModel" "as" "I") (List.mem_cons_of_mem _ (List.mem_append_left _ (List.mem_of_getElem? (i := 4) rfl)))) (fun _ h9 => h9) rfl dX12_as_18 ?_
    have hc_9 := im_8 hI
    refine lv_istore_n (lv' := [(2, .int (y_1 (a 50) 31)), (0, .ref (a 50)), (1, .int p0)]) hx hb dX12_as_21 rfl hl (by decide) rfl (fun ls hl => ?_)
    refine lv_aload_n hx hb dX12_as_22 rfl (lv_at hl 1 rfl) ?_
    refine lv_iload_n hx hb dX12_as_23 rfl (lv_at hl 2 rfl) ?_
    refine tw_put (D := (dC, dI)) (x := p0) (ty := .int) (C := RX12) (T := TX12) (N := 58) hx hb hts (fun _ hh => (List.mem_cons_of_mem _ (List.mem_append_right _ (List.mem_append_left _ hh)))) tyX12 tyX12_ok nmX12 hown hK hT hF hS (fx_50 hX) (by decide) cl_e60 rfl 31 (by decide) (hts (.fieldLink RX12 94 "TypingPoolModel" "as" "I") (List.mem_cons_of_mem _ (List.mem_append_left _ (List.mem_of_getElem? (i := 4) rfl)))) (fun _ h9 => h9) rfl (tyX12_ok 31 (by decide)) rfl rfl (Nat.le_of_ble_eq_true rfl) rfl dX12_as_24 (fun H locs hT hS => ?_)
    obtain ⟨y_10, hy_10, hT⟩ : ∃ z : Nat → Nat → Int32, z = up2 y_1 (a 50) 31 p0 ∧ tw (dC, dI) a k τ ln z g H := ⟨_, rfl, hT⟩
    have hG : ag τ [60] y y_10 := by rw [hy_10]; exact hG.up (fx_50 hX) (by decide)
    have hW : IW (u 1) (u 2) (u 9) (y_10 (a 89)) := by rw [hy_10, up2_o (kd_ne (fx_89 hX) (fx_50 hX) (by decide))]; exact hW
    have hp_11 : p0.toInt = p0.toInt := rfl
    have hI := hI.set8 hp_11
    rw [← hy_10] at hI
    have hW : IW ((upc u 8 p0.toInt) 1) ((upc u 8 p0.toInt) 2) ((upc u 8 p0.toInt) 9) (y_10 (a 89)) := iw_u hW (by simp [upc]) (by simp [upc]) (by simp [upc])
    refine lv_iload_n hx hb dX12_as_27 rfl (lv_at hl 0 rfl) ?_
    have hrv : (y_1 (a 50) 31).toInt = u 8 := hc_9
    exact W.iret (v := y_1 (a 50) 31) hx hb hr (fun t ht hW9 => ⟨⟨y_1 (a 50) 31, y_1 (a 50) 31, rfl, rfl, Or.inr (⟨(upc u 8 p0.toInt), y_10, g, (by intro i hi; simp only [List.mem_cons, List.not_mem_nil, or_false, not_or] at hi; unfold upc; repeat rw [if_neg (by omega)]), hG, hGg, hI, by omega, by omega, upc_i, tw_at ht hT⟩)⟩, hS.F ht⟩) hS.2.2 dX12_as_28
  · refine lq_top (v := 0) hre ?_
    rw [ht] at hT
    try simp only [hp_2, hp_3] at hf_7
    clear hp_2 hp_3
    refine lv_if_ne (tgt := 17) hx hb dX12_as_12 (by decide) (fun c_12 => absurd c_12 (by decide)) (fun c_12 => ?_)
    refine lv_iconst (v := (-1)) hx hb dX12_as_15 (by decide) ?_
    have hrv : (-1 : Int32).toInt = (-1) := (zk (x := (-1)) (-1) rfl)
    exact W.iret (v := (-1)) hx hb hr (fun t ht hW9 => ⟨⟨(-1), (-1), rfl, rfl, Or.inl ⟨u, y_1, g, rfl, fun _ _ => rfl, hG, hGg, hI, by omega, by omega, tw_at ht hT⟩⟩, hS.F ht⟩) hS.2.2 dX12_as_16
