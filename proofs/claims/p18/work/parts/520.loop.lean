def wo_law : List Cond := [.methodLink RL 35 yX11_post, .instanceMethod yX11_post, .selects RX11 yX11_post yX11_post, .initialized RX11, .methodLink RL 38 yX12_post, .instanceMethod yX12_post, .selects RX12 yX12_post yX12_post, .initialized RX12, .methodLink RL 39 yX11_hand, .instanceMethod yX11_hand, .selects RX11 yX11_hand yX11_hand, .methodLink RL 43 yX12_hand, .instanceMethod yX12_hand, .selects RX12 yX12_hand yX12_hand, .methodLink RL 44 yX11_away, .instanceMethod yX11_away, .selects RX11 yX11_away yX11_away, .methodLink RL 48 yX12_away, .instanceMethod yX12_away, .selects RX12 yX12_away yX12_away, .methodLink RL 49 yX11_piece, .instanceMethod yX11_piece, .selects RX11 yX11_piece yX11_piece, .methodLink RL 53 yX12_piece__, .instanceMethod yX12_piece__, .selects RX12 yX12_piece__ yX12_piece__, .methodLink RL 54 yX11_sign, .instanceMethod yX11_sign, .selects RX11 yX11_sign yX11_sign, .methodLink RL 57 yX12_sign, .instanceMethod yX12_sign, .selects RX12 yX12_sign yX12_sign, .methodLink RL 58 yX11_end, .instanceMethod yX11_end, .selects RX11 yX11_end yX11_end, .methodLink RL 62 yX12_end, .instanceMethod yX12_end, .selects RX12 yX12_end yX12_end, .methodLink RL 63 yX11_rule, .instanceMethod yX11_rule, .selects RX11 yX11_rule yX11_rule, .methodLink RL 66 yX12_rule, .instanceMethod yX12_rule, .selects RX12 yX12_rule yX12_rule, .methodLink RL 67 yX11_step, .instanceMethod yX11_step, .selects RX11 yX11_step yX11_step, .methodLink RL 70 yX12_step, .instanceMethod yX12_step, .selects RX12 yX12_step yX12_step, .methodLink RL 71 yL_of, .static yL_of, .initialized RL, .methodLink RL 76 yX12_of, .instanceMethod yX12_of, .selects RX12 yX12_of yX12_of, .methodLink RL 77 yX11_at, .instanceMethod yX11_at, .selects RX11 yX11_at yX11_at, .methodLink RL 80 yX12_at, .instanceMethod yX12_at, .selects RX12 yX12_at yX12_at, .methodLink RL 81 yX11_may, .instanceMethod yX11_may, .selects RX11 yX11_may yX11_may, .methodLink RL 84 yX12_may, .instanceMethod yX12_may, .selects RX12 yX12_may yX12_may, .methodLink RL 85 yL_order, .static yL_order, .methodLink RL 87 yX12_order, .instanceMethod yX12_order, .selects RX12 yX12_order yX12_order, .methodLink RL 88 yX11_goes, .instanceMethod yX11_goes, .selects RX11 yX11_goes yX11_goes, .methodLink RL 91 yX12_goes, .instanceMethod yX12_goes, .selects RX12 yX12_goes yX12_goes, .methodLink RL 92 yX11_count, .instanceMethod yX11_count, .selects RX11 yX11_count yX11_count, .methodLink RL 95 yX12_count, .instanceMethod yX12_count, .selects RX12 yX12_count yX12_count, .methodLink RL 96 yX11_correct, .instanceMethod yX11_correct, .selects RX11 yX11_correct yX11_correct, .methodLink RL 100 yX12_correct, .instanceMethod yX12_correct, .selects RX12 yX12_correct yX12_correct, .methodLink RL 101 yX11_undo, .instanceMethod yX11_undo, .selects RX11 yX11_undo yX11_undo, .methodLink RL 105 yX12_undo, .instanceMethod yX12_undo, .selects RX12 yX12_undo yX12_undo, .methodLink RL 106 yX11_as, .instanceMethod yX11_as, .selects RX11 yX11_as yX11_as, .methodLink RL 109 yX12_as, .instanceMethod yX12_as, .selects RX12 yX12_as yX12_as, .methodLink RL 110 yX11_fault, .instanceMethod yX11_fault, .selects RX11 yX11_fault yX11_fault, .methodLink RL 113 yX12_fault, .instanceMethod yX12_fault, .selects RX12 yX12_fault yX12_fault, .methodLink RL 114 yX11_faults, .instanceMethod yX11_faults, .selects RX11 yX11_faults yX11_faults, .methodLink RL 117 yX12_faults, .instanceMethod yX12_faults, .selects RX12 yX12_faults yX12_faults, .methodLink RL 118 yL_pay, .static yL_pay, .methodLink RL 121 yX12_pay, .instanceMethod yX12_pay, .selects RX12 yX12_pay yX12_pay, .methodLink RL 122 yL_earns, .static yL_earns, .methodLink RL 124 yX12_earns, .instanceMethod yX12_earns, .selects RX12 yX12_earns yX12_earns, .methodLink RL 125 yX11_slips, .instanceMethod yX11_slips, .selects RX11 yX11_slips yX11_slips, .methodLink RL 129 yX12_slips, .instanceMethod yX12_slips, .selects RX12 yX12_slips yX12_slips, .methodLink RL 130 yX11_left, .instanceMethod yX11_left, .selects RX11 yX11_left yX11_left, .methodLink RL 133 yX12_left, .instanceMethod yX12_left, .selects RX12 yX12_left yX12_left, .methodLink RL 134 yX11_quick, .instanceMethod yX11_quick, .selects RX11 yX11_quick yX11_quick, .methodLink RL 137 yX12_quick, .instanceMethod yX12_quick, .selects RX12 yX12_quick yX12_quick, .methodLink RL 138 yX11_claims, .instanceMethod yX11_claims, .selects RX11 yX11_claims yX11_claims, .methodLink RL 141 yX12_claims, .instanceMethod yX12_claims, .selects RX12 yX12_claims yX12_claims, .methodLink RL 142 yX11_plan, .instanceMethod yX11_plan, .selects RX11 yX11_plan yX11_plan, .methodLink RL 145 yX12_plan, .instanceMethod yX12_plan, .selects RX12 yX12_plan yX12_plan, .methodLink RL 146 yX11_lateness, .instanceMethod yX11_lateness, .selects RX11 yX11_lateness yX11_lateness, .methodLink RL 149 yX12_lateness, .instanceMethod yX12_lateness, .selects RX12 yX12_lateness yX12_lateness, .methodLink RL 150 yX11_tried, .instanceMethod yX11_tried, .selects RX11 yX11_tried yX11_tried, .methodLink RL 153 yX12_tried, .instanceMethod yX12_tried, .selects RX12 yX12_tried yX12_tried, .methodLink RL 154 yL_ill, .static yL_ill, .methodLink RL 156 yX12_ill, .instanceMethod yX12_ill, .selects RX12 yX12_ill yX12_ill, .methodLink RL 157 yL_row, .static yL_row, .methodLink RL 159 yX12_row, .instanceMethod yX12_row, .selects RX12 yX12_row yX12_row]
set_option maxRecDepth 20000 in
theorem im_law : ∀ w ∈ wo_law, w ∈ lw_tbl := in_r _ [590, 591, 592, 70, 1416, 1417, 1418, 86, 597, 598, 599, 1423, 1424, 1425, 625, 626, 627, 1432, 1433, 1434, 656, 657, 658, 1444, 1445, 1446, 727, 728, 729, 1456, 1457, 1458, 731, 732, 733, 1460, 1461, 1462, 735, 736, 737, 1464, 1465, 1466, 743, 744, 745, 1524, 1525, 1526, 1082, 1083, 69, 1584, 1585, 1586, 855, 856, 857, 1592, 1593, 1594, 870, 871, 872, 1604, 1605, 1606, 1161, 1162, 1608, 1609, 1610, 875, 876, 877, 1612, 1613, 1614, 883, 884, 885, 1616, 1617, 1618, 896, 897, 898, 1624, 1625, 1626, 932, 933, 934, 1628, 1629, 1630, 940, 941, 942, 1632, 1633, 1634, 944, 945, 946, 1636, 1637, 1638, 958, 959, 960, 1648, 1649, 1650, 1170, 1171, 1652, 1653, 1654, 1183, 1184, 1660, 1661, 1662, 976, 977, 978, 1664, 1665, 1666, 980, 981, 982, 1668, 1669, 1670, 989, 990, 991, 1672, 1673, 1674, 1003, 1004, 1005, 1676, 1677, 1678, 1015, 1016, 1017, 1684, 1685, 1686, 1065, 1066, 1067, 1711, 1712, 1713, 1069, 1070, 1071, 1715, 1716, 1717, 1196, 1197, 1727, 1728, 1729, 1204, 1205, 1731, 1732, 1733] (by decide +kernel)
set_option maxHeartbeats 40000000 in
set_option maxRecDepth 100000 in
/-- THE LAW'S LOOP -/
theorem law_loop {p : Program} {e : Env} {s : State} {m : MethodId} {below : List Frame} {meth : Method} {c : Code} (l : Launch) (hst : l.stackTraces = false) {b L : Nat} {xs : Nat → Int32} (hL : L ≤ 5120) (C0 : lw_At p s m meth c b L xs) (dC : Nat → ClassId) (dI : Nat → Nat → Nat) (ad av : Nat → Nat) (a : Nat → Nat) (k : Nat → ClassId) (hK : va_K (dC, dI) vwCl (tyl k) s) (hM : am_ok ad av (fun q : Nat => s.heap.size ≤ q) s s.heap) :
    ∀ (n q : Nat) (i4 : Int32) (τ ln : Nat → Nat) (y : Nat → Nat → Int32) (g : Nat → Nat → Option Nat) (u v : Nat → Int) (H : Heap) (locs : List Loc) (ls : Array Slot), 513 - q < n → (∀ q, τ q ≠ 0 → s.heap.size ≤ q) → IC a u τ ln y g → IM a v τ y → IW (v 1) (v 2) (v 9) (y (a 89)) → vb 38408 0 4800 (y (a 99)) → v 10 = -1 → v 3 ≤ 30 → (u 8 = v 8) → i4.toInt = 10 * (q : Int) → q ≤ 512 → tw (dC, dI) a k τ ln y g H → va_S (fun q : Nat => s.heap.size ≤ q) s.heap H locs → lv_has ls 7 [(0, .ref b), (1, .ref (a 0)), (2, .ref (a 50)), (3, .ref (a 49)), (4, .int i4)] →
      W p l e room_1 s m #[Value.ref b] below meth c H locs (200 + 4 * q) (60000 + 100 * q) (lw_Z below #[Value.ref b] s) (F0 m 23 ls []) := by
  obtain ⟨hx, hb, hr, hml, hown, hts, hXs, hbl, hlocks, hgv⟩ := id C0
  have hA : ∀ q : Nat, s.heap.size ≤ q → (fun q : Nat => s.heap.size ≤ q) q := fun _ h => h
  have hbA : ¬ (fun q : Nat => s.heap.size ≤ q) b := Nat.not_le.mpr hbl
  intro n
  induction n with
  | zero => intro q i4 τ ln y g u v H locs ls hlt; exact absurd hlt (Nat.not_lt_zero _)
  | succ n ih =>
    intro q i4 τ ln y g u v H locs ls hlt hF hI hJ hW hTh h10 h3 hrel hq hqL hT hS hl
    have hX := hI.1
    obtain ⟨s1, hs1⟩ : ∃ z, z = xs (10 * q + 1) := ⟨_, rfl⟩
    obtain ⟨s2, hs2⟩ : ∃ z, z = xs (10 * q + 2) := ⟨_, rfl⟩
    obtain ⟨s3, hs3⟩ : ∃ z, z = xs (10 * q + 3) := ⟨_, rfl⟩
    obtain ⟨s4, hs4⟩ : ∃ z, z = xs (10 * q + 4) := ⟨_, rfl⟩
    obtain ⟨s5, hs5⟩ : ∃ z, z = xs (10 * q + 5) := ⟨_, rfl⟩
    obtain ⟨s6, hs6⟩ : ∃ z, z = xs (10 * q + 6) := ⟨_, rfl⟩
    obtain ⟨s7, hs7⟩ : ∃ z, z = xs (10 * q + 7) := ⟨_, rfl⟩
    obtain ⟨s8, hs8⟩ : ∃ z, z = xs (10 * q + 8) := ⟨_, rfl⟩
    obtain ⟨s9, hs9⟩ : ∃ z, z = xs (10 * q + 9) := ⟨_, rfl⟩
    refine lv_iload hx hb dL_law_23 (lv_at hl 4 rfl) ?_
    refine lv_aload_n hx hb dL_law_25 rfl (lv_at hl 0 rfl) ?_
    refine va_slen hx hb hXs hbl hbA hS dL_law_26 ?_
    refine lv_bipush (v := 10) hx hb dL_law_27 (by decide) ?_
    refine lv_isub hx hb dL_law_29 ?_
    refine lv_topi (fun x_1 ex_1 => ?_)
    have hx_1 := z_sub ex_1 (z_of L (by omega)) (zk (x := 10) 10 rfl) (by omega) (by omega)
    refine lv_icmp_gt (tgt := 1366) hx hb dL_law_30 (by decide) (fun c_2 => ?_) (fun c_2 => ?_)
    · have nc_2 := z_lt rfl rfl c_2
      refine lv_iconst (v := 1) hx hb dL_law_1366 (by decide) ?_
      refine va_forget (fun q hq => hS.2.2 q hq) ?_
      refine W.widen (k := 601024) (n := 7293034) (by omega) (by omega) ?_
      exact lw_ret hx hb hr hlocks dL_law_1367
    · have nc_2 := z_nlt rfl rfl c_2
      refine lv_aload_n hx hb dL_law_33 rfl (lv_at hl 0 rfl) ?_
      refine lv_iload hx hb dL_law_34 (lv_at hl 4 rfl) ?_
      refine va_sld hx hb hXs hbl hbA hS (z_in rfl (by omega) (by omega)) dL_law_36 ?_
      refine lv_topi (fun x_3 ex_3 => ?_)
      refine lv_bipush (v := 31) hx hb dL_law_37 (by decide) ?_
      refine lv_iand hx hb dL_law_39 ?_
      refine lv_topi (fun x_4 ex_4 => ?_)
      have hx_4 := z_and (x := x_3) (zk (x := 31) 31 rfl) (by omega)
      rw [← ex_4] at hx_4
      rcases tb_0_29 x_4 with t_5 | t_5 | t_5 | t_5 | t_5 | t_5 | t_5 | t_5 | t_5 | t_5 | t_5 | t_5 | t_5 | t_5 | t_5 | t_5 | t_5 | t_5 | t_5 | t_5 | t_5 | t_5 | t_5 | t_5 | t_5 | t_5 | t_5 | t_5 | t_5 | t_5 | t_5
      · refine lq_top (v := 0) t_5 ?_
        have nt_5 := z_eq rfl (zk (x := 0) 0 rfl) t_5
        refine lv_tableIn (tgt := 176) hx hb dL_law_40 (by decide) (by decide) (off := 136) (by decide) (by decide) ?_
        refine lv_aload_n hx hb dL_law_176 rfl (lv_at hl 1 rfl) ?_
        refine lv_aload_n hx hb dL_law_177 rfl (lv_at hl 0 rfl) ?_
        refine lv_iload hx hb dL_law_178 (lv_at hl 4 rfl) ?_
        refine lv_iconst (v := 1) hx hb dL_law_180 (by decide) ?_
        refine lv_iadd hx hb dL_law_181 ?_
        refine lv_topi (fun x_6 ex_6 => ?_)
        have hx_6 := z_add ex_6 rfl (zk (x := 1) 1 rfl) (by omega) (by omega)
        refine va_sld hx hb hXs hbl hbA hS (z_in rfl (by omega) (by omega)) dL_law_182 ?_
        refine lq_top (v := s1) (by rw [hs1]; exact congrArg xs (by rw [z_nat (x := x_6) rfl]; omega)) ?_
        have hFc := tw_free hF hS hA
        refine va_calli (va_runV (As := [.int s1]) (rest := []) ⟨hx, hb, hml, hown, hts⟩ (c_post l dC dI ad av H.size a k τ ln y g u s1 hI ) (cwV 1 hts (gi_4 (im_law _ (List.mem_of_getElem? (i := 0) rfl)) (im_law _ (List.mem_of_getElem? (i := 1) rfl)) (im_law _ (List.mem_of_getElem? (i := 2) rfl)) (im_law _ (List.mem_of_getElem? (i := 3) rfl)) im_c_post gd_c_post) rfl rfl rfl (by decide +kernel) ⟨Nat.le_of_ble_eq_true rfl, Nat.le_of_ble_eq_true rfl⟩) ⟨pw_blind, tw_recv hK hT (fx_0 hX) (by decide) cl_e10 rfl, pw_use hT hK hFc hS hM⟩ rfl rfl hl.1 rfl (lv_room (Nat.le_of_ble_eq_true rfl)) dL_law_183 ⟨by show 200 + 4 * q + 0 ≤ 601024; omega, by show 60000 + 100 * q + 0 ≤ 7293034; omega⟩) hS (fun q _ h => hFc q h) hFc (fun r0 r_7 t H locs ht hvm hw hB hz1 hk1 hS => ?_)
        clear hvm hz1 hk1
        subst hw
        rcases hB with ⟨um_8, hre, hum_8, hf_9, ⟨tm_8, lm_8, ym_8, gm_8, hMo, hKM, hI, hT⟩⟩ | ⟨um_10, hum_10, hf_11, hf_12, hf_13, ⟨tm_10, lm_10, ym_10, gm_10, hMo, hKM, hI, hT⟩⟩
        · refine lq_top (v := (-1)) hre ?_
          rw [ht] at hT
          have hF : ∀ q, tm_8 q ≠ 0 → s.heap.size ≤ q := fun q h => hFc q (hMo.2 q h)
          have hJ := hJ.kp hKM hI.1
          have hW : IW (v 1) (v 2) (v 9) (ym_8 (a 89)) := by rw [hKM.fx hX (j := 89) (by decide) (by decide)]; exact hW
          have hTh : vb 38408 0 4800 (ym_8 (a 99)) := by rw [hKM.fx hX (j := 99) (by decide) (by decide)]; exact hTh
          have hX := hI.1
          have : um_8 8 = u 8 := hum_8 8 (by decide)
          refine lv_pop hx hb dL_law_186 rfl ?_
          refine lv_aload_n hx hb dL_law_187 rfl (lv_at hl 2 rfl) ?_
          refine lv_aload_n hx hb dL_law_188 rfl (lv_at hl 0 rfl) ?_
          refine lv_iload hx hb dL_law_189 (lv_at hl 4 rfl) ?_
          refine lv_iconst (v := 1) hx hb dL_law_191 (by decide) ?_
          refine lv_iadd hx hb dL_law_192 ?_
          refine lv_topi (fun x_14 ex_14 => ?_)
          have hx_14 := z_add ex_14 rfl (zk (x := 1) 1 rfl) (by omega) (by omega)
          refine va_sld hx hb hXs hbl hbA hS (z_in rfl (by omega) (by omega)) dL_law_193 ?_
          refine lq_top (v := s1) (by rw [hs1]; exact congrArg xs (by rw [z_nat (x := x_14) rfl]; omega)) ?_
          have hFc := tw_free hF hS hA
          refine va_calli (va_runV (As := [.int s1]) (rest := []) ⟨hx, hb, hml, hown, hts⟩ (m_post l dC dI ad av H.size a k tm_8 lm_8 ym_8 gm_8 v s1 hJ hW) (cwV 1 hts (gi_4 (im_law _ (List.mem_of_getElem? (i := 4) rfl)) (im_law _ (List.mem_of_getElem? (i := 5) rfl)) (im_law _ (List.mem_of_getElem? (i := 6) rfl)) (im_law _ (List.mem_of_getElem? (i := 7) rfl)) im_m_post gd_m_post) rfl rfl rfl (by decide +kernel) ⟨Nat.le_of_ble_eq_true rfl, Nat.le_of_ble_eq_true rfl⟩) ⟨pw_blind, tw_recv hK hT (fx_50 hX) (by decide) cl_e60 rfl, pw_use hT hK hFc hS hM⟩ rfl rfl hl.1 rfl (lv_room (Nat.le_of_ble_eq_true rfl)) dL_law_194 ⟨by show 200 + 4 * q + 0 + 0 ≤ 601024; omega, by show 60000 + 100 * q + 0 + 0 ≤ 7293034; omega⟩) hS (fun q _ h => hFc q h) hFc (fun r0 r_15 t H locs ht hvm hw hB hz1 hk1 hS => ?_)
          clear hvm hz1 hk1
          subst hw
          rcases hB with ⟨um_16, ym_16, gm_16, hre, hum_16, hgm_16, hggm_16, hJ, hf_17, hf_18, hT⟩ | ⟨um_19, ym_19, gm_19, hum_19, hgm_19, hggm_19, hJ, hf_20, hf_21, hf_22, hT⟩
          · refine lq_top (v := (-1)) hre ?_
            rw [ht] at hT
            have hI := hI.ag hgm_16 (by decide)
            have hI := hI.agg hggm_16
            have hW : IW (um_16 1) (um_16 2) (um_16 9) (ym_16 (a 89)) := by rw [hgm_16.at (fx_89 hX) (by decide)]; exact iw_u hW (hum_16 1 (by decide)) (hum_16 2 (by decide)) (hum_16 9 (by decide))
            have hTh : vb 38408 0 4800 (ym_16 (a 99)) := by rw [hgm_16.at (fx_99 hX) (by decide)]; exact hTh
            have : um_16 8 = v 8 := hum_16 8 (by decide)
            have : um_16 3 = v 3 := hum_16 3 (by decide)
            have : um_16 10 = v 10 := hum_16 10 (by decide)
            refine lv_pop hx hb dL_law_197 rfl ?_
            refine lv_goto (tgt := 1360) hx hb dL_law_198 (by decide) ?_
            obtain ⟨x_23, ex_23⟩ : ∃ y : Int32, y = i4 + Int32.ofInt 10 := ⟨_, rfl⟩
            have hx_23 := z_add ex_23 rfl (zk (x := Int32.ofInt 10) 10 rfl) (by omega) (by omega)
            refine lv_iinc (v := x_23) (lv' := [(4, .int x_23), (0, .ref b), (1, .ref (a 0)), (2, .ref (a 50)), (3, .ref (a 49))]) hx hb dL_law_1360 hl (k := 4) rfl ex_23.symm (by decide) rfl (fun ls hl => ?_)
            refine lv_goto (tgt := 23) hx hb dL_law_1363 (by decide) ?_
            refine W.widen (k := 200 + 4 * (q + 1)) (n := 60000 + 100 * (q + 1)) (by omega) (by omega) ?_
            exact ih (q + 1) x_23 tm_8 lm_8 ym_16 gm_16 um_8 um_16 H _ ls (by omega) hF hI hJ hW hTh (by omega) (by omega) (by omega) (by omega) (by omega) hT hS (lv_sub hl [1, 2, 3, 4, 0] rfl)
          · rw [ht] at hT
            have hI := hI.ag hgm_19 (by decide)
            have hI := hI.agg hggm_19
            have hW : IW (um_19 1) (um_19 2) (um_19 9) (ym_19 (a 89)) := by rw [hgm_19.at (fx_89 hX) (by decide)]; exact iw_u hW (hum_19 1 (by decide)) (hum_19 2 (by decide)) (hum_19 9 (by decide))
            have hTh : vb 38408 0 4800 (ym_19 (a 99)) := by rw [hgm_19.at (fx_99 hX) (by decide)]; exact hTh
            have : um_19 8 = v 8 := hum_19 8 (by decide)
            have : um_19 3 = v 3 := hum_19 3 (by decide)
            have : um_19 10 = v 10 := hum_19 10 (by decide)
            refine lv_pop hx hb dL_law_197 rfl ?_
            refine lv_goto (tgt := 1360) hx hb dL_law_198 (by decide) ?_
            obtain ⟨x_24, ex_24⟩ : ∃ y : Int32, y = i4 + Int32.ofInt 10 := ⟨_, rfl⟩
            have hx_24 := z_add ex_24 rfl (zk (x := Int32.ofInt 10) 10 rfl) (by omega) (by omega)
            refine lv_iinc (v := x_24) (lv' := [(4, .int x_24), (0, .ref b), (1, .ref (a 0)), (2, .ref (a 50)), (3, .ref (a 49))]) hx hb dL_law_1360 hl (k := 4) rfl ex_24.symm (by decide) rfl (fun ls hl => ?_)
            refine lv_goto (tgt := 23) hx hb dL_law_1363 (by decide) ?_
            refine W.widen (k := 200 + 4 * (q + 1)) (n := 60000 + 100 * (q + 1)) (by omega) (by omega) ?_
            exact ih (q + 1) x_24 tm_8 lm_8 ym_19 gm_19 um_8 um_19 H _ ls (by omega) hF hI hJ hW hTh (by omega) (by omega) (by omega) (by omega) (by omega) hT hS (lv_sub hl [1, 2, 3, 4, 0] rfl)
        · rw [ht] at hT
          have hF : ∀ q, tm_10 q ≠ 0 → s.heap.size ≤ q := fun q h => hFc q (hMo.2 q h)
          have hJ := hJ.kp hKM hI.1
          have hW : IW (v 1) (v 2) (v 9) (ym_10 (a 89)) := by rw [hKM.fx hX (j := 89) (by decide) (by decide)]; exact hW
          have hTh : vb 38408 0 4800 (ym_10 (a 99)) := by rw [hKM.fx hX (j := 99) (by decide) (by decide)]; exact hTh
          have hX := hI.1
          have : um_10 8 = u 8 := hum_10 8 (by decide)
          refine lv_pop hx hb dL_law_186 rfl ?_
          refine lv_aload_n hx hb dL_law_187 rfl (lv_at hl 2 rfl) ?_
          refine lv_aload_n hx hb dL_law_188 rfl (lv_at hl 0 rfl) ?_
          refine lv_iload hx hb dL_law_189 (lv_at hl 4 rfl) ?_
          refine lv_iconst (v := 1) hx hb dL_law_191 (by decide) ?_
          refine lv_iadd hx hb dL_law_192 ?_
          refine lv_topi (fun x_25 ex_25 => ?_)
          have hx_25 := z_add ex_25 rfl (zk (x := 1) 1 rfl) (by omega) (by omega)
          refine va_sld hx hb hXs hbl hbA hS (z_in rfl (by omega) (by omega)) dL_law_193 ?_
          refine lq_top (v := s1) (by rw [hs1]; exact congrArg xs (by rw [z_nat (x := x_25) rfl]; omega)) ?_
          have hFc := tw_free hF hS hA
          refine va_calli (va_runV (As := [.int s1]) (rest := []) ⟨hx, hb, hml, hown, hts⟩ (m_post l dC dI ad av H.size a k tm_10 lm_10 ym_10 gm_10 v s1 hJ hW) (cwV 1 hts (gi_4 (im_law _ (List.mem_of_getElem? (i := 4) rfl)) (im_law _ (List.mem_of_getElem? (i := 5) rfl)) (im_law _ (List.mem_of_getElem? (i := 6) rfl)) (im_law _ (List.mem_of_getElem? (i := 7) rfl)) im_m_post gd_m_post) rfl rfl rfl (by decide +kernel) ⟨Nat.le_of_ble_eq_true rfl, Nat.le_of_ble_eq_true rfl⟩) ⟨pw_blind, tw_recv hK hT (fx_50 hX) (by decide) cl_e60 rfl, pw_use hT hK hFc hS hM⟩ rfl rfl hl.1 rfl (lv_room (Nat.le_of_ble_eq_true rfl)) dL_law_194 ⟨by show 200 + 4 * q + 0 + 0 ≤ 601024; omega, by show 60000 + 100 * q + 0 + 0 ≤ 7293034; omega⟩) hS (fun q _ h => hFc q h) hFc (fun r0 r_26 t H locs ht hvm hw hB hz1 hk1 hS => ?_)
          clear hvm hz1 hk1
          subst hw
          rcases hB with ⟨um_27, ym_27, gm_27, hre, hum_27, hgm_27, hggm_27, hJ, hf_28, hf_29, hT⟩ | ⟨um_30, ym_30, gm_30, hum_30, hgm_30, hggm_30, hJ, hf_31, hf_32, hf_33, hT⟩
          · refine lq_top (v := (-1)) hre ?_
            rw [ht] at hT
            have hI := hI.ag hgm_27 (by decide)
            have hI := hI.agg hggm_27
            have hW : IW (um_27 1) (um_27 2) (um_27 9) (ym_27 (a 89)) := by rw [hgm_27.at (fx_89 hX) (by decide)]; exact iw_u hW (hum_27 1 (by decide)) (hum_27 2 (by decide)) (hum_27 9 (by decide))
            have hTh : vb 38408 0 4800 (ym_27 (a 99)) := by rw [hgm_27.at (fx_99 hX) (by decide)]; exact hTh
            have : um_27 8 = v 8 := hum_27 8 (by decide)
            have : um_27 3 = v 3 := hum_27 3 (by decide)
            have : um_27 10 = v 10 := hum_27 10 (by decide)
            refine lv_pop hx hb dL_law_197 rfl ?_
            refine lv_goto (tgt := 1360) hx hb dL_law_198 (by decide) ?_
            obtain ⟨x_34, ex_34⟩ : ∃ y : Int32, y = i4 + Int32.ofInt 10 := ⟨_, rfl⟩
            have hx_34 := z_add ex_34 rfl (zk (x := Int32.ofInt 10) 10 rfl) (by omega) (by omega)
            refine lv_iinc (v := x_34) (lv' := [(4, .int x_34), (0, .ref b), (1, .ref (a 0)), (2, .ref (a 50)), (3, .ref (a 49))]) hx hb dL_law_1360 hl (k := 4) rfl ex_34.symm (by decide) rfl (fun ls hl => ?_)
            refine lv_goto (tgt := 23) hx hb dL_law_1363 (by decide) ?_
            refine W.widen (k := 200 + 4 * (q + 1)) (n := 60000 + 100 * (q + 1)) (by omega) (by omega) ?_
            exact ih (q + 1) x_34 tm_10 lm_10 ym_27 gm_27 um_10 um_27 H _ ls (by omega) hF hI hJ hW hTh (by omega) (by omega) (by omega) (by omega) (by omega) hT hS (lv_sub hl [1, 2, 3, 4, 0] rfl)
          · rw [ht] at hT
            have hI := hI.ag hgm_30 (by decide)
            have hI := hI.agg hggm_30
            have hW : IW (um_30 1) (um_30 2) (um_30 9) (ym_30 (a 89)) := by rw [hgm_30.at (fx_89 hX) (by decide)]; exact iw_u hW (hum_30 1 (by decide)) (hum_30 2 (by decide)) (hum_30 9 (by decide))
            have hTh : vb 38408 0 4800 (ym_30 (a 99)) := by rw [hgm_30.at (fx_99 hX) (by decide)]; exact hTh
            have : um_30 8 = v 8 := hum_30 8 (by decide)
            have : um_30 3 = v 3 := hum_30 3 (by decide)
            have : um_30 10 = v 10 := hum_30 10 (by decide)
            refine lv_pop hx hb dL_law_197 rfl ?_
            refine lv_goto (tgt := 1360) hx hb dL_law_198 (by decide) ?_
            obtain ⟨x_35, ex_35⟩ : ∃ y : Int32, y = i4 + Int32.ofInt 10 := ⟨_, rfl⟩
            have hx_35 := z_add ex_35 rfl (zk (x := Int32.ofInt 10) 10 rfl) (by omega) (by omega)
            refine lv_iinc (v := x_35) (lv' := [(4, .int x_35), (0, .ref b), (1, .ref (a 0)), (2, .ref (a 50)), (3, .ref (a 49))]) hx hb dL_law_1360 hl (k := 4) rfl ex_35.symm (by decide) rfl (fun ls hl => ?_)
            refine lv_goto (tgt := 23) hx hb dL_law_1363 (by decide) ?_
            refine W.widen (k := 200 + 4 * (q + 1)) (n := 60000 + 100 * (q + 1)) (by omega) (by omega) ?_
            exact ih (q + 1) x_35 tm_10 lm_10 ym_30 gm_30 um_10 um_30 H _ ls (by omega) hF hI hJ hW hTh (by omega) (by omega) (by omega) (by omega) (by omega) hT hS (lv_sub hl [1, 2, 3, 4, 0] rfl)
      · refine lq_top (v := 1) t_5 ?_
        have nt_5 := z_eq rfl (zk (x := 1) 1 rfl) t_5
        refine lv_tableIn (tgt := 201) hx hb dL_law_40 (by decide) (by decide) (off := 161) (by decide) (by decide) ?_
        refine lv_aload_n hx hb dL_law_201 rfl (lv_at hl 1 rfl) ?_
        refine lv_aload_n hx hb dL_law_202 rfl (lv_at hl 0 rfl) ?_
        refine lv_iload hx hb dL_law_203 (lv_at hl 4 rfl) ?_
        refine lv_iconst (v := 1) hx hb dL_law_205 (by decide) ?_
        refine lv_iadd hx hb dL_law_206 ?_
        refine lv_topi (fun x_36 ex_36 => ?_)
        have hx_36 := z_add ex_36 rfl (zk (x := 1) 1 rfl) (by omega) (by omega)
        refine va_sld hx hb hXs hbl hbA hS (z_in rfl (by omega) (by omega)) dL_law_207 ?_
        refine lq_top (v := s1) (by rw [hs1]; exact congrArg xs (by rw [z_nat (x := x_36) rfl]; omega)) ?_
        refine lv_aload_n hx hb dL_law_208 rfl (lv_at hl 0 rfl) ?_
        refine lv_iload hx hb dL_law_209 (lv_at hl 4 rfl) ?_
        refine lv_iconst (v := 2) hx hb dL_law_211 (by decide) ?_
        refine lv_iadd hx hb dL_law_212 ?_
        refine lv_topi (fun x_37 ex_37 => ?_)
        have hx_37 := z_add ex_37 rfl (zk (x := 2) 2 rfl) (by omega) (by omega)
        refine va_sld hx hb hXs hbl hbA hS (z_in rfl (by omega) (by omega)) dL_law_213 ?_
        refine lq_top (v := s2) (by rw [hs2]; exact congrArg xs (by rw [z_nat (x := x_37) rfl]; omega)) ?_
        refine lv_aload_n hx hb dL_law_214 rfl (lv_at hl 0 rfl) ?_
        refine lv_iload hx hb dL_law_215 (lv_at hl 4 rfl) ?_
        refine lv_iconst (v := 3) hx hb dL_law_217 (by decide) ?_
        refine lv_iadd hx hb dL_law_218 ?_
        refine lv_topi (fun x_38 ex_38 => ?_)
        have hx_38 := z_add ex_38 rfl (zk (x := 3) 3 rfl) (by omega) (by omega)
        refine va_sld hx hb hXs hbl hbA hS (z_in rfl (by omega) (by omega)) dL_law_219 ?_
        refine lq_top (v := s3) (by rw [hs3]; exact congrArg xs (by rw [z_nat (x := x_38) rfl]; omega)) ?_
        refine lv_aload_n hx hb dL_law_220 rfl (lv_at hl 0 rfl) ?_
        refine lv_iload hx hb dL_law_221 (lv_at hl 4 rfl) ?_
        refine lv_iconst (v := 4) hx hb dL_law_223 (by decide) ?_
        refine lv_iadd hx hb dL_law_224 ?_
        refine lv_topi (fun x_39 ex_39 => ?_)
        have hx_39 := z_add ex_39 rfl (zk (x := 4) 4 rfl) (by omega) (by omega)
        refine va_sld hx hb hXs hbl hbA hS (z_in rfl (by omega) (by omega)) dL_law_225 ?_
        refine lq_top (v := s4) (by rw [hs4]; exact congrArg xs (by rw [z_nat (x := x_39) rfl]; omega)) ?_
        have hFc := tw_free hF hS hA
        refine va_calli (va_runV (As := [.int s1, .int s2, .int s3, .int s4]) (rest := []) ⟨hx, hb, hml, hown, hts⟩ (c_hand l dC dI ad av H.size a k τ ln y g u s1 s2 s3 s4 hI ) (cwV 4 hts (gi_4 (im_law _ (List.mem_of_getElem? (i := 8) rfl)) (im_law _ (List.mem_of_getElem? (i := 9) rfl)) (im_law _ (List.mem_of_getElem? (i := 10) rfl)) (im_law _ (List.mem_of_getElem? (i := 3) rfl)) im_c_hand gd_c_hand) rfl rfl rfl (by decide +kernel) ⟨Nat.le_of_ble_eq_true rfl, Nat.le_of_ble_eq_true rfl⟩) ⟨pw_blind, tw_recv hK hT (fx_0 hX) (by decide) cl_e10 rfl, pw_use hT hK hFc hS hM⟩ rfl rfl hl.1 rfl (lv_room (Nat.le_of_ble_eq_true rfl)) dL_law_226 ⟨by show 200 + 4 * q + 1 ≤ 601024; omega, by show 60000 + 100 * q + 3 ≤ 7293034; omega⟩) hS (fun q _ h => hFc q h) hFc (fun r0 r_40 t H locs ht hvm hw hB hz1 hk1 hS => ?_)
        clear hvm hz1 hk1
        subst hw
        rcases hB with ⟨um_41, hre, hum_41, hf_42, ⟨tm_41, lm_41, ym_41, gm_41, hMo, hKM, hI, hT⟩⟩ | ⟨um_43, hum_43, hf_44, hf_45, hf_46, ⟨tm_43, lm_43, ym_43, gm_43, hMo, hKM, hI, hT⟩⟩
        · refine lq_top (v := (-1)) hre ?_
          rw [ht] at hT
          have hF : ∀ q, tm_41 q ≠ 0 → s.heap.size ≤ q := fun q h => hFc q (hMo.2 q h)
          have hJ := hJ.kp hKM hI.1
          have hW : IW (v 1) (v 2) (v 9) (ym_41 (a 89)) := by rw [hKM.fx hX (j := 89) (by decide) (by decide)]; exact hW
          have hTh : vb 38408 0 4800 (ym_41 (a 99)) := by rw [hKM.fx hX (j := 99) (by decide) (by decide)]; exact hTh
          have hX := hI.1
          have : um_41 8 = u 8 := hum_41 8 (by decide)
          refine lv_pop hx hb dL_law_229 rfl ?_
          refine lv_aload_n hx hb dL_law_230 rfl (lv_at hl 2 rfl) ?_
          refine lv_aload_n hx hb dL_law_231 rfl (lv_at hl 0 rfl) ?_
          refine lv_iload hx hb dL_law_232 (lv_at hl 4 rfl) ?_
          refine lv_iconst (v := 1) hx hb dL_law_234 (by decide) ?_
          refine lv_iadd hx hb dL_law_235 ?_
          refine lv_topi (fun x_47 ex_47 => ?_)
          have hx_47 := z_add ex_47 rfl (zk (x := 1) 1 rfl) (by omega) (by omega)
          refine va_sld hx hb hXs hbl hbA hS (z_in rfl (by omega) (by omega)) dL_law_236 ?_
          refine lq_top (v := s1) (by rw [hs1]; exact congrArg xs (by rw [z_nat (x := x_47) rfl]; omega)) ?_
          refine lv_aload_n hx hb dL_law_237 rfl (lv_at hl 0 rfl) ?_
          refine lv_iload hx hb dL_law_238 (lv_at hl 4 rfl) ?_
          refine lv_iconst (v := 2) hx hb dL_law_240 (by decide) ?_
          refine lv_iadd hx hb dL_law_241 ?_
          refine lv_topi (fun x_48 ex_48 => ?_)
          have hx_48 := z_add ex_48 rfl (zk (x := 2) 2 rfl) (by omega) (by omega)
          refine va_sld hx hb hXs hbl hbA hS (z_in rfl (by omega) (by omega)) dL_law_242 ?_
          refine lq_top (v := s2) (by rw [hs2]; exact congrArg xs (by rw [z_nat (x := x_48) rfl]; omega)) ?_
          refine lv_aload_n hx hb dL_law_243 rfl (lv_at hl 0 rfl) ?_
          refine lv_iload hx hb dL_law_244 (lv_at hl 4 rfl) ?_
          refine lv_iconst (v := 3) hx hb dL_law_246 (by decide) ?_
          refine lv_iadd hx hb dL_law_247 ?_
          refine lv_topi (fun x_49 ex_49 => ?_)
          have hx_49 := z_add ex_49 rfl (zk (x := 3) 3 rfl) (by omega) (by omega)
          refine va_sld hx hb hXs hbl hbA hS (z_in rfl (by omega) (by omega)) dL_law_248 ?_
          refine lq_top (v := s3) (by rw [hs3]; exact congrArg xs (by rw [z_nat (x := x_49) rfl]; omega)) ?_
          refine lv_aload_n hx hb dL_law_249 rfl (lv_at hl 0 rfl) ?_
          refine lv_iload hx hb dL_law_250 (lv_at hl 4 rfl) ?_
          refine lv_iconst (v := 4) hx hb dL_law_252 (by decide) ?_
          refine lv_iadd hx hb dL_law_253 ?_
          refine lv_topi (fun x_50 ex_50 => ?_)
          have hx_50 := z_add ex_50 rfl (zk (x := 4) 4 rfl) (by omega) (by omega)
          refine va_sld hx hb hXs hbl hbA hS (z_in rfl (by omega) (by omega)) dL_law_254 ?_
          refine lq_top (v := s4) (by rw [hs4]; exact congrArg xs (by rw [z_nat (x := x_50) rfl]; omega)) ?_
          have hFc := tw_free hF hS hA
          refine va_calli (va_runV (As := [.int s1, .int s2, .int s3, .int s4]) (rest := []) ⟨hx, hb, hml, hown, hts⟩ (m_hand l dC dI ad av H.size a k tm_41 lm_41 ym_41 gm_41 v s1 s2 s3 s4 hJ hW) (cwV 4 hts (gi_4 (im_law _ (List.mem_of_getElem? (i := 11) rfl)) (im_law _ (List.mem_of_getElem? (i := 12) rfl)) (im_law _ (List.mem_of_getElem? (i := 13) rfl)) (im_law _ (List.mem_of_getElem? (i := 7) rfl)) im_m_hand gd_m_hand) rfl rfl rfl (by decide +kernel) ⟨Nat.le_of_ble_eq_true rfl, Nat.le_of_ble_eq_true rfl⟩) ⟨pw_blind, tw_recv hK hT (fx_50 hX) (by decide) cl_e60 rfl, pw_use hT hK hFc hS hM⟩ rfl rfl hl.1 rfl (lv_room (Nat.le_of_ble_eq_true rfl)) dL_law_255 ⟨by show 200 + 4 * q + 1 + 0 ≤ 601024; omega, by show 60000 + 100 * q + 3 + 0 ≤ 7293034; omega⟩) hS (fun q _ h => hFc q h) hFc (fun r0 r_51 t H locs ht hvm hw hB hz1 hk1 hS => ?_)
          clear hvm hz1 hk1
          subst hw
          rcases hB with ⟨um_52, ym_52, gm_52, hre, hum_52, hgm_52, hggm_52, hJ, hW, hf_53, hf_54, hT⟩ | ⟨um_55, ym_55, gm_55, hum_55, hgm_55, hggm_55, hJ, hW, hf_56, hf_57, hf_58, hT⟩
          · refine lq_top (v := (-1)) hre ?_
            rw [ht] at hT
            have hI := hI.ag hgm_52 (by decide)
            have hI := hI.agg hggm_52
            have hTh : vb 38408 0 4800 (ym_52 (a 99)) := by rw [hgm_52.at (fx_99 hX) (by decide)]; exact hTh
            have : um_52 8 = v 8 := hum_52 8 (by decide)
            have : um_52 3 = v 3 := hum_52 3 (by decide)
            have : um_52 10 = v 10 := hum_52 10 (by decide)
            refine lv_pop hx hb dL_law_258 rfl ?_
            refine lv_goto (tgt := 1360) hx hb dL_law_259 (by decide) ?_
            obtain ⟨x_59, ex_59⟩ : ∃ y : Int32, y = i4 + Int32.ofInt 10 := ⟨_, rfl⟩
            have hx_59 := z_add ex_59 rfl (zk (x := Int32.ofInt 10) 10 rfl) (by omega) (by omega)
            refine lv_iinc (v := x_59) (lv' := [(4, .int x_59), (0, .ref b), (1, .ref (a 0)), (2, .ref (a 50)), (3, .ref (a 49))]) hx hb dL_law_1360 hl (k := 4) rfl ex_59.symm (by decide) rfl (fun ls hl => ?_)
            refine lv_goto (tgt := 23) hx hb dL_law_1363 (by decide) ?_
            refine W.widen (k := 200 + 4 * (q + 1)) (n := 60000 + 100 * (q + 1)) (by omega) (by omega) ?_
            exact ih (q + 1) x_59 tm_41 lm_41 ym_52 gm_52 um_41 um_52 H _ ls (by omega) hF hI hJ hW hTh (by omega) (by omega) (by omega) (by omega) (by omega) hT hS (lv_sub hl [1, 2, 3, 4, 0] rfl)
          · rw [ht] at hT
            have hI := hI.ag hgm_55 (by decide)
            have hI := hI.agg hggm_55
            have hTh : vb 38408 0 4800 (ym_55 (a 99)) := by rw [hgm_55.at (fx_99 hX) (by decide)]; exact hTh
            have : um_55 8 = v 8 := hum_55 8 (by decide)
            have : um_55 3 = v 3 := hum_55 3 (by decide)
            have : um_55 10 = v 10 := hum_55 10 (by decide)
            refine lv_pop hx hb dL_law_258 rfl ?_
            refine lv_goto (tgt := 1360) hx hb dL_law_259 (by decide) ?_
            obtain ⟨x_60, ex_60⟩ : ∃ y : Int32, y = i4 + Int32.ofInt 10 := ⟨_, rfl⟩
            have hx_60 := z_add ex_60 rfl (zk (x := Int32.ofInt 10) 10 rfl) (by omega) (by omega)
            refine lv_iinc (v := x_60) (lv' := [(4, .int x_60), (0, .ref b), (1, .ref (a 0)), (2, .ref (a 50)), (3, .ref (a 49))]) hx hb dL_law_1360 hl (k := 4) rfl ex_60.symm (by decide) rfl (fun ls hl => ?_)
            refine lv_goto (tgt := 23) hx hb dL_law_1363 (by decide) ?_
            refine W.widen (k := 200 + 4 * (q + 1)) (n := 60000 + 100 * (q + 1)) (by omega) (by omega) ?_
            exact ih (q + 1) x_60 tm_41 lm_41 ym_55 gm_55 um_41 um_55 H _ ls (by omega) hF hI hJ hW hTh (by omega) (by omega) (by omega) (by omega) (by omega) hT hS (lv_sub hl [1, 2, 3, 4, 0] rfl)
        · rw [ht] at hT
          have hF : ∀ q, tm_43 q ≠ 0 → s.heap.size ≤ q := fun q h => hFc q (hMo.2 q h)
          have hJ := hJ.kp hKM hI.1
          have hW : IW (v 1) (v 2) (v 9) (ym_43 (a 89)) := by rw [hKM.fx hX (j := 89) (by decide) (by decide)]; exact hW
          have hTh : vb 38408 0 4800 (ym_43 (a 99)) := by rw [hKM.fx hX (j := 99) (by decide) (by decide)]; exact hTh
          have hX := hI.1
          have : um_43 8 = u 8 := hum_43 8 (by decide)
          refine lv_pop hx hb dL_law_229 rfl ?_
          refine lv_aload_n hx hb dL_law_230 rfl (lv_at hl 2 rfl) ?_
          refine lv_aload_n hx hb dL_law_231 rfl (lv_at hl 0 rfl) ?_
          refine lv_iload hx hb dL_law_232 (lv_at hl 4 rfl) ?_
          refine lv_iconst (v := 1) hx hb dL_law_234 (by decide) ?_
          refine lv_iadd hx hb dL_law_235 ?_
          refine lv_topi (fun x_61 ex_61 => ?_)
          have hx_61 := z_add ex_61 rfl (zk (x := 1) 1 rfl) (by omega) (by omega)
          refine va_sld hx hb hXs hbl hbA hS (z_in rfl (by omega) (by omega)) dL_law_236 ?_
          refine lq_top (v := s1) (by rw [hs1]; exact congrArg xs (by rw [z_nat (x := x_61) rfl]; omega)) ?_
          refine lv_aload_n hx hb dL_law_237 rfl (lv_at hl 0 rfl) ?_
          refine lv_iload hx hb dL_law_238 (lv_at hl 4 rfl) ?_
          refine lv_iconst (v := 2) hx hb dL_law_240 (by decide) ?_
          refine lv_iadd hx hb dL_law_241 ?_
          refine lv_topi (fun x_62 ex_62 => ?_)
          have hx_62 := z_add ex_62 rfl (zk (x := 2) 2 rfl) (by omega) (by omega)
          refine va_sld hx hb hXs hbl hbA hS (z_in rfl (by omega) (by omega)) dL_law_242 ?_
          refine lq_top (v := s2) (by rw [hs2]; exact congrArg xs (by rw [z_nat (x := x_62) rfl]; omega)) ?_
          refine lv_aload_n hx hb dL_law_243 rfl (lv_at hl 0 rfl) ?_
          refine lv_iload hx hb dL_law_244 (lv_at hl 4 rfl) ?_
          refine lv_iconst (v := 3) hx hb dL_law_246 (by decide) ?_
          refine lv_iadd hx hb dL_law_247 ?_
          refine lv_topi (fun x_63 ex_63 => ?_)
          have hx_63 := z_add ex_63 rfl (zk (x := 3) 3 rfl) (by omega) (by omega)
          refine va_sld hx hb hXs hbl hbA hS (z_in rfl (by omega) (by omega)) dL_law_248 ?_
          refine lq_top (v := s3) (by rw [hs3]; exact congrArg xs (by rw [z_nat (x := x_63) rfl]; omega)) ?_
          refine lv_aload_n hx hb dL_law_249 rfl (lv_at hl 0 rfl) ?_
          refine lv_iload hx hb dL_law_250 (lv_at hl 4 rfl) ?_
          refine lv_iconst (v := 4) hx hb dL_law_252 (by decide) ?_
          refine lv_iadd hx hb dL_law_253 ?_
          refine lv_topi (fun x_64 ex_64 => ?_)
          have hx_64 := z_add ex_64 rfl (zk (x := 4) 4 rfl) (by omega) (by omega)
          refine va_sld hx hb hXs hbl hbA hS (z_in rfl (by omega) (by omega)) dL_law_254 ?_
          refine lq_top (v := s4) (by rw [hs4]; exact congrArg xs (by rw [z_nat (x := x_64) rfl]; omega)) ?_
          have hFc := tw_free hF hS hA
          refine va_calli (va_runV (As := [.int s1, .int s2, .int s3, .int s4]) (rest := []) ⟨hx, hb, hml, hown, hts⟩ (m_hand l dC dI ad av H.size a k tm_43 lm_43 ym_43 gm_43 v s1 s2 s3 s4 hJ hW) (cwV 4 hts (gi_4 (im_law _ (List.mem_of_getElem? (i := 11) rfl)) (im_law _ (List.mem_of_getElem? (i := 12) rfl)) (im_law _ (List.mem_of_getElem? (i := 13) rfl)) (im_law _ (List.mem_of_getElem? (i := 7) rfl)) im_m_hand gd_m_hand) rfl rfl rfl (by decide +kernel) ⟨Nat.le_of_ble_eq_true rfl, Nat.le_of_ble_eq_true rfl⟩) ⟨pw_blind, tw_recv hK hT (fx_50 hX) (by decide) cl_e60 rfl, pw_use hT hK hFc hS hM⟩ rfl rfl hl.1 rfl (lv_room (Nat.le_of_ble_eq_true rfl)) dL_law_255 ⟨by show 200 + 4 * q + 1 + 0 ≤ 601024; omega, by show 60000 + 100 * q + 3 + 0 ≤ 7293034; omega⟩) hS (fun q _ h => hFc q h) hFc (fun r0 r_65 t H locs ht hvm hw hB hz1 hk1 hS => ?_)
          clear hvm hz1 hk1
          subst hw
          rcases hB with ⟨um_66, ym_66, gm_66, hre, hum_66, hgm_66, hggm_66, hJ, hW, hf_67, hf_68, hT⟩ | ⟨um_69, ym_69, gm_69, hum_69, hgm_69, hggm_69, hJ, hW, hf_70, hf_71, hf_72, hT⟩
          · refine lq_top (v := (-1)) hre ?_
            rw [ht] at hT
            have hI := hI.ag hgm_66 (by decide)
            have hI := hI.agg hggm_66
            have hTh : vb 38408 0 4800 (ym_66 (a 99)) := by rw [hgm_66.at (fx_99 hX) (by decide)]; exact hTh
            have : um_66 8 = v 8 := hum_66 8 (by decide)
            have : um_66 3 = v 3 := hum_66 3 (by decide)
            have : um_66 10 = v 10 := hum_66 10 (by decide)
            refine lv_pop hx hb dL_law_258 rfl ?_
            refine lv_goto (tgt := 1360) hx hb dL_law_259 (by decide) ?_
            obtain ⟨x_73, ex_73⟩ : ∃ y : Int32, y = i4 + Int32.ofInt 10 := ⟨_, rfl⟩
            have hx_73 := z_add ex_73 rfl (zk (x := Int32.ofInt 10) 10 rfl) (by omega) (by omega)
            refine lv_iinc (v := x_73) (lv' := [(4, .int x_73), (0, .ref b), (1, .ref (a 0)), (2, .ref (a 50)), (3, .ref (a 49))]) hx hb dL_law_1360 hl (k := 4) rfl ex_73.symm (by decide) rfl (fun ls hl => ?_)
            refine lv_goto (tgt := 23) hx hb dL_law_1363 (by decide) ?_
            refine W.widen (k := 200 + 4 * (q + 1)) (n := 60000 + 100 * (q + 1)) (by omega) (by omega) ?_
            exact ih (q + 1) x_73 tm_43 lm_43 ym_66 gm_66 um_43 um_66 H _ ls (by omega) hF hI hJ hW hTh (by omega) (by omega) (by omega) (by omega) (by omega) hT hS (lv_sub hl [1, 2, 3, 4, 0] rfl)
          · rw [ht] at hT
            have hI := hI.ag hgm_69 (by decide)
            have hI := hI.agg hggm_69
            have hTh : vb 38408 0 4800 (ym_69 (a 99)) := by rw [hgm_69.at (fx_99 hX) (by decide)]; exact hTh
            have : um_69 8 = v 8 := hum_69 8 (by decide)
            have : um_69 3 = v 3 := hum_69 3 (by decide)
            have : um_69 10 = v 10 := hum_69 10 (by decide)
            refine lv_pop hx hb dL_law_258 rfl ?_
            refine lv_goto (tgt := 1360) hx hb dL_law_259 (by decide) ?_
            obtain ⟨x_74, ex_74⟩ : ∃ y : Int32, y = i4 + Int32.ofInt 10 := ⟨_, rfl⟩
            have hx_74 := z_add ex_74 rfl (zk (x := Int32.ofInt 10) 10 rfl) (by omega) (by omega)
            refine lv_iinc (v := x_74) (lv' := [(4, .int x_74), (0, .ref b), (1, .ref (a 0)), (2, .ref (a 50)), (3, .ref (a 49))]) hx hb dL_law_1360 hl (k := 4) rfl ex_74.symm (by decide) rfl (fun ls hl => ?_)
            refine lv_goto (tgt := 23) hx hb dL_law_1363 (by decide) ?_
            refine W.widen (k := 200 + 4 * (q + 1)) (n := 60000 + 100 * (q + 1)) (by omega) (by omega) ?_
            exact ih (q + 1) x_74 tm_43 lm_43 ym_69 gm_69 um_43 um_69 H _ ls (by omega) hF hI hJ hW hTh (by omega) (by omega) (by omega) (by omega) (by omega) hT hS (lv_sub hl [1, 2, 3, 4, 0] rfl)
      · refine lq_top (v := 2) t_5 ?_
        have nt_5 := z_eq rfl (zk (x := 2) 2 rfl) t_5
        refine lv_tableIn (tgt := 262) hx hb dL_law_40 (by decide) (by decide) (off := 222) (by decide) (by decide) ?_
        refine lv_aload_n hx hb dL_law_262 rfl (lv_at hl 1 rfl) ?_
        refine lv_aload_n hx hb dL_law_263 rfl (lv_at hl 0 rfl) ?_
        refine lv_iload hx hb dL_law_264 (lv_at hl 4 rfl) ?_
        refine lv_iconst (v := 1) hx hb dL_law_266 (by decide) ?_
        refine lv_iadd hx hb dL_law_267 ?_
        refine lv_topi (fun x_75 ex_75 => ?_)
        have hx_75 := z_add ex_75 rfl (zk (x := 1) 1 rfl) (by omega) (by omega)
        refine va_sld hx hb hXs hbl hbA hS (z_in rfl (by omega) (by omega)) dL_law_268 ?_
        refine lq_top (v := s1) (by rw [hs1]; exact congrArg xs (by rw [z_nat (x := x_75) rfl]; omega)) ?_
        refine lv_aload_n hx hb dL_law_269 rfl (lv_at hl 0 rfl) ?_
        refine lv_iload hx hb dL_law_270 (lv_at hl 4 rfl) ?_
        refine lv_iconst (v := 2) hx hb dL_law_272 (by decide) ?_
        refine lv_iadd hx hb dL_law_273 ?_
        refine lv_topi (fun x_76 ex_76 => ?_)
        have hx_76 := z_add ex_76 rfl (zk (x := 2) 2 rfl) (by omega) (by omega)
        refine va_sld hx hb hXs hbl hbA hS (z_in rfl (by omega) (by omega)) dL_law_274 ?_
        refine lq_top (v := s2) (by rw [hs2]; exact congrArg xs (by rw [z_nat (x := x_76) rfl]; omega)) ?_
        refine lv_aload_n hx hb dL_law_275 rfl (lv_at hl 0 rfl) ?_
        refine lv_iload hx hb dL_law_276 (lv_at hl 4 rfl) ?_
        refine lv_iconst (v := 3) hx hb dL_law_278 (by decide) ?_
        refine lv_iadd hx hb dL_law_279 ?_
        refine lv_topi (fun x_77 ex_77 => ?_)
        have hx_77 := z_add ex_77 rfl (zk (x := 3) 3 rfl) (by omega) (by omega)
        refine va_sld hx hb hXs hbl hbA hS (z_in rfl (by omega) (by omega)) dL_law_280 ?_
        refine lq_top (v := s3) (by rw [hs3]; exact congrArg xs (by rw [z_nat (x := x_77) rfl]; omega)) ?_
        have hFc := tw_free hF hS hA
        refine va_calli (va_runV (As := [.int s1, .int s2, .int s3]) (rest := []) ⟨hx, hb, hml, hown, hts⟩ (c_away l dC dI ad av H.size a k τ ln y g u s1 s2 s3 hI ) (cwV 3 hts (gi_4 (im_law _ (List.mem_of_getElem? (i := 14) rfl)) (im_law _ (List.mem_of_getElem? (i := 15) rfl)) (im_law _ (List.mem_of_getElem? (i := 16) rfl)) (im_law _ (List.mem_of_getElem? (i := 3) rfl)) im_c_away gd_c_away) rfl rfl rfl (by decide +kernel) ⟨Nat.le_of_ble_eq_true rfl, Nat.le_of_ble_eq_true rfl⟩) ⟨pw_blind, tw_recv hK hT (fx_0 hX) (by decide) cl_e10 rfl, pw_use hT hK hFc hS hM⟩ rfl rfl hl.1 rfl (lv_room (Nat.le_of_ble_eq_true rfl)) dL_law_281 ⟨by show 200 + 4 * q + 1 ≤ 601024; omega, by show 60000 + 100 * q + 3 ≤ 7293034; omega⟩) hS (fun q _ h => hFc q h) hFc (fun r0 r_78 t H locs ht hvm hw hB hz1 hk1 hS => ?_)
        clear hvm hz1 hk1
        subst hw
        obtain ⟨um_79, hum_79, ⟨tm_79, lm_79, ym_79, gm_79, hMo, hKM, hI, hT⟩⟩ := hB
        rw [ht] at hT
        have hF : ∀ q, tm_79 q ≠ 0 → s.heap.size ≤ q := fun q h => hFc q (hMo.2 q h)
        have hJ := hJ.kp hKM hI.1
        have hW : IW (v 1) (v 2) (v 9) (ym_79 (a 89)) := by rw [hKM.fx hX (j := 89) (by decide) (by decide)]; exact hW
        have hTh : vb 38408 0 4800 (ym_79 (a 99)) := by rw [hKM.fx hX (j := 99) (by decide) (by decide)]; exact hTh
        have hX := hI.1
        have : um_79 8 = u 8 := hum_79 8 (by decide)
        refine lv_pop hx hb dL_law_284 rfl ?_
        refine lv_aload_n hx hb dL_law_285 rfl (lv_at hl 2 rfl) ?_
        refine lv_aload_n hx hb dL_law_286 rfl (lv_at hl 0 rfl) ?_
        refine lv_iload hx hb dL_law_287 (lv_at hl 4 rfl) ?_
        refine lv_iconst (v := 1) hx hb dL_law_289 (by decide) ?_
        refine lv_iadd hx hb dL_law_290 ?_
        refine lv_topi (fun x_80 ex_80 => ?_)
        have hx_80 := z_add ex_80 rfl (zk (x := 1) 1 rfl) (by omega) (by omega)
        refine va_sld hx hb hXs hbl hbA hS (z_in rfl (by omega) (by omega)) dL_law_291 ?_
        refine lq_top (v := s1) (by rw [hs1]; exact congrArg xs (by rw [z_nat (x := x_80) rfl]; omega)) ?_
        refine lv_aload_n hx hb dL_law_292 rfl (lv_at hl 0 rfl) ?_
        refine lv_iload hx hb dL_law_293 (lv_at hl 4 rfl) ?_
        refine lv_iconst (v := 2) hx hb dL_law_295 (by decide) ?_
        refine lv_iadd hx hb dL_law_296 ?_
        refine lv_topi (fun x_81 ex_81 => ?_)
        have hx_81 := z_add ex_81 rfl (zk (x := 2) 2 rfl) (by omega) (by omega)
        refine va_sld hx hb hXs hbl hbA hS (z_in rfl (by omega) (by omega)) dL_law_297 ?_
        refine lq_top (v := s2) (by rw [hs2]; exact congrArg xs (by rw [z_nat (x := x_81) rfl]; omega)) ?_
        refine lv_aload_n hx hb dL_law_298 rfl (lv_at hl 0 rfl) ?_
        refine lv_iload hx hb dL_law_299 (lv_at hl 4 rfl) ?_
        refine lv_iconst (v := 3) hx hb dL_law_301 (by decide) ?_
        refine lv_iadd hx hb dL_law_302 ?_
        refine lv_topi (fun x_82 ex_82 => ?_)
        have hx_82 := z_add ex_82 rfl (zk (x := 3) 3 rfl) (by omega) (by omega)
        refine va_sld hx hb hXs hbl hbA hS (z_in rfl (by omega) (by omega)) dL_law_303 ?_
        refine lq_top (v := s3) (by rw [hs3]; exact congrArg xs (by rw [z_nat (x := x_82) rfl]; omega)) ?_
        have hFc := tw_free hF hS hA
        refine va_calli (va_runV (As := [.int s1, .int s2, .int s3]) (rest := []) ⟨hx, hb, hml, hown, hts⟩ (m_away l dC dI ad av H.size a k tm_79 lm_79 ym_79 gm_79 v s1 s2 s3 hJ h3 hW) (cwV 3 hts (gi_4 (im_law _ (List.mem_of_getElem? (i := 17) rfl)) (im_law _ (List.mem_of_getElem? (i := 18) rfl)) (im_law _ (List.mem_of_getElem? (i := 19) rfl)) (im_law _ (List.mem_of_getElem? (i := 7) rfl)) im_m_away gd_m_away) rfl rfl rfl (by decide +kernel) ⟨Nat.le_of_ble_eq_true rfl, Nat.le_of_ble_eq_true rfl⟩) ⟨pw_blind, tw_recv hK hT (fx_50 hX) (by decide) cl_e60 rfl, pw_use hT hK hFc hS hM⟩ rfl rfl hl.1 rfl (lv_room (Nat.le_of_ble_eq_true rfl)) dL_law_304 ⟨by show 200 + 4 * q + 1 + 0 ≤ 601024; omega, by show 60000 + 100 * q + 3 + 0 ≤ 7293034; omega⟩) hS (fun q _ h => hFc q h) hFc (fun r0 r_83 t H locs ht hvm hw hB hz1 hk1 hS => ?_)
        clear hvm hz1 hk1
        subst hw
        rcases hB with ⟨um_84, ym_84, gm_84, hre, hum_84, hgm_84, hggm_84, hJ, hf_85, hf_86, hT⟩ | ⟨um_87, ym_87, gm_87, hum_87, hgm_87, hggm_87, hJ, hf_88, hf_89, hf_90, hT⟩
        · refine lq_top (v := (-1)) hre ?_
          rw [ht] at hT
          have hI := hI.ag hgm_84 (by decide)
          have hI := hI.agg hggm_84
          have hW : IW (um_84 1) (um_84 2) (um_84 9) (ym_84 (a 89)) := by rw [hgm_84.at (fx_89 hX) (by decide)]; exact iw_u hW (hum_84 1 (by decide)) (hum_84 2 (by decide)) (hum_84 9 (by decide))
          have hTh : vb 38408 0 4800 (ym_84 (a 99)) := by rw [hgm_84.at (fx_99 hX) (by decide)]; exact hTh
          have : um_84 8 = v 8 := hum_84 8 (by decide)
          have : um_84 10 = v 10 := hum_84 10 (by decide)
          refine lv_pop hx hb dL_law_307 rfl ?_
          refine lv_goto (tgt := 1360) hx hb dL_law_308 (by decide) ?_
          obtain ⟨x_91, ex_91⟩ : ∃ y : Int32, y = i4 + Int32.ofInt 10 := ⟨_, rfl⟩
          have hx_91 := z_add ex_91 rfl (zk (x := Int32.ofInt 10) 10 rfl) (by omega) (by omega)
          refine lv_iinc (v := x_91) (lv' := [(4, .int x_91), (0, .ref b), (1, .ref (a 0)), (2, .ref (a 50)), (3, .ref (a 49))]) hx hb dL_law_1360 hl (k := 4) rfl ex_91.symm (by decide) rfl (fun ls hl => ?_)
          refine lv_goto (tgt := 23) hx hb dL_law_1363 (by decide) ?_
          refine W.widen (k := 200 + 4 * (q + 1)) (n := 60000 + 100 * (q + 1)) (by omega) (by omega) ?_
          exact ih (q + 1) x_91 tm_79 lm_79 ym_84 gm_84 um_79 um_84 H _ ls (by omega) hF hI hJ hW hTh (by omega) (by omega) (by omega) (by omega) (by omega) hT hS (lv_sub hl [1, 2, 3, 4, 0] rfl)
        · rw [ht] at hT
          have hI := hI.ag hgm_87 (by decide)
          have hI := hI.agg hggm_87
          have hW : IW (um_87 1) (um_87 2) (um_87 9) (ym_87 (a 89)) := by rw [hgm_87.at (fx_89 hX) (by decide)]; exact iw_u hW (hum_87 1 (by decide)) (hum_87 2 (by decide)) (hum_87 9 (by decide))
          have hTh : vb 38408 0 4800 (ym_87 (a 99)) := by rw [hgm_87.at (fx_99 hX) (by decide)]; exact hTh
          have : um_87 8 = v 8 := hum_87 8 (by decide)
          have : um_87 10 = v 10 := hum_87 10 (by decide)
          refine lv_pop hx hb dL_law_307 rfl ?_
          refine lv_goto (tgt := 1360) hx hb dL_law_308 (by decide) ?_
          obtain ⟨x_92, ex_92⟩ : ∃ y : Int32, y = i4 + Int32.ofInt 10 := ⟨_, rfl⟩
          have hx_92 := z_add ex_92 rfl (zk (x := Int32.ofInt 10) 10 rfl) (by omega) (by omega)
          refine lv_iinc (v := x_92) (lv' := [(4, .int x_92), (0, .ref b), (1, .ref (a 0)), (2, .ref (a 50)), (3, .ref (a 49))]) hx hb dL_law_1360 hl (k := 4) rfl ex_92.symm (by decide) rfl (fun ls hl => ?_)
          refine lv_goto (tgt := 23) hx hb dL_law_1363 (by decide) ?_
          refine W.widen (k := 200 + 4 * (q + 1)) (n := 60000 + 100 * (q + 1)) (by omega) (by omega) ?_
          exact ih (q + 1) x_92 tm_79 lm_79 ym_87 gm_87 um_79 um_87 H _ ls (by omega) hF hI hJ hW hTh (by omega) (by omega) (by omega) (by omega) (by omega) hT hS (lv_sub hl [1, 2, 3, 4, 0] rfl)
      · refine lq_top (v := 3) t_5 ?_
        have nt_5 := z_eq rfl (zk (x := 3) 3 rfl) t_5
        refine lv_tableIn (tgt := 311) hx hb dL_law_40 (by decide) (by decide) (off := 271) (by decide) (by decide) ?_
        refine lv_aload_n hx hb dL_law_311 rfl (lv_at hl 1 rfl) ?_
        refine lv_aload_n hx hb dL_law_312 rfl (lv_at hl 0 rfl) ?_
        refine lv_iload hx hb dL_law_313 (lv_at hl 4 rfl) ?_
        refine lv_iconst (v := 1) hx hb dL_law_315 (by decide) ?_
        refine lv_iadd hx hb dL_law_316 ?_
        refine lv_topi (fun x_93 ex_93 => ?_)
        have hx_93 := z_add ex_93 rfl (zk (x := 1) 1 rfl) (by omega) (by omega)
        refine va_sld hx hb hXs hbl hbA hS (z_in rfl (by omega) (by omega)) dL_law_317 ?_
        refine lq_top (v := s1) (by rw [hs1]; exact congrArg xs (by rw [z_nat (x := x_93) rfl]; omega)) ?_
        refine lv_aload_n hx hb dL_law_318 rfl (lv_at hl 0 rfl) ?_
        refine lv_iload hx hb dL_law_319 (lv_at hl 4 rfl) ?_
        refine lv_iconst (v := 2) hx hb dL_law_321 (by decide) ?_
        refine lv_iadd hx hb dL_law_322 ?_
        refine lv_topi (fun x_94 ex_94 => ?_)
        have hx_94 := z_add ex_94 rfl (zk (x := 2) 2 rfl) (by omega) (by omega)
        refine va_sld hx hb hXs hbl hbA hS (z_in rfl (by omega) (by omega)) dL_law_323 ?_
        refine lq_top (v := s2) (by rw [hs2]; exact congrArg xs (by rw [z_nat (x := x_94) rfl]; omega)) ?_
        refine lv_aload_n hx hb dL_law_324 rfl (lv_at hl 0 rfl) ?_
        refine lv_iload hx hb dL_law_325 (lv_at hl 4 rfl) ?_
        refine lv_iconst (v := 3) hx hb dL_law_327 (by decide) ?_
        refine lv_iadd hx hb dL_law_328 ?_
        refine lv_topi (fun x_95 ex_95 => ?_)
        have hx_95 := z_add ex_95 rfl (zk (x := 3) 3 rfl) (by omega) (by omega)
        refine va_sld hx hb hXs hbl hbA hS (z_in rfl (by omega) (by omega)) dL_law_329 ?_
        refine lq_top (v := s3) (by rw [hs3]; exact congrArg xs (by rw [z_nat (x := x_95) rfl]; omega)) ?_
        refine lv_aload_n hx hb dL_law_330 rfl (lv_at hl 0 rfl) ?_
        refine lv_iload hx hb dL_law_331 (lv_at hl 4 rfl) ?_
        refine lv_iconst (v := 4) hx hb dL_law_333 (by decide) ?_
        refine lv_iadd hx hb dL_law_334 ?_
        refine lv_topi (fun x_96 ex_96 => ?_)
        have hx_96 := z_add ex_96 rfl (zk (x := 4) 4 rfl) (by omega) (by omega)
        refine va_sld hx hb hXs hbl hbA hS (z_in rfl (by omega) (by omega)) dL_law_335 ?_
        refine lq_top (v := s4) (by rw [hs4]; exact congrArg xs (by rw [z_nat (x := x_96) rfl]; omega)) ?_
        refine lv_aload_n hx hb dL_law_336 rfl (lv_at hl 0 rfl) ?_
        refine lv_iload hx hb dL_law_337 (lv_at hl 4 rfl) ?_
        refine lv_iconst (v := 5) hx hb dL_law_339 (by decide) ?_
        refine lv_iadd hx hb dL_law_340 ?_
        refine lv_topi (fun x_97 ex_97 => ?_)
        have hx_97 := z_add ex_97 rfl (zk (x := 5) 5 rfl) (by omega) (by omega)
        refine va_sld hx hb hXs hbl hbA hS (z_in rfl (by omega) (by omega)) dL_law_341 ?_
        refine lq_top (v := s5) (by rw [hs5]; exact congrArg xs (by rw [z_nat (x := x_97) rfl]; omega)) ?_
        refine lv_aload_n hx hb dL_law_342 rfl (lv_at hl 0 rfl) ?_
        refine lv_iload hx hb dL_law_343 (lv_at hl 4 rfl) ?_
        refine lv_bipush (v := 6) hx hb dL_law_345 (by decide) ?_
        refine lv_iadd hx hb dL_law_347 ?_
        refine lv_topi (fun x_98 ex_98 => ?_)
        have hx_98 := z_add ex_98 rfl (zk (x := 6) 6 rfl) (by omega) (by omega)
        refine va_sld hx hb hXs hbl hbA hS (z_in rfl (by omega) (by omega)) dL_law_348 ?_
        refine lq_top (v := s6) (by rw [hs6]; exact congrArg xs (by rw [z_nat (x := x_98) rfl]; omega)) ?_
        refine lv_aload_n hx hb dL_law_349 rfl (lv_at hl 0 rfl) ?_
        refine lv_iload hx hb dL_law_350 (lv_at hl 4 rfl) ?_
        refine lv_bipush (v := 7) hx hb dL_law_352 (by decide) ?_
        refine lv_iadd hx hb dL_law_354 ?_
        refine lv_topi (fun x_99 ex_99 => ?_)
        have hx_99 := z_add ex_99 rfl (zk (x := 7) 7 rfl) (by omega) (by omega)
        refine va_sld hx hb hXs hbl hbA hS (z_in rfl (by omega) (by omega)) dL_law_355 ?_
        refine lq_top (v := s7) (by rw [hs7]; exact congrArg xs (by rw [z_nat (x := x_99) rfl]; omega)) ?_
        refine lv_aload_n hx hb dL_law_356 rfl (lv_at hl 0 rfl) ?_
        refine lv_iload hx hb dL_law_357 (lv_at hl 4 rfl) ?_
        refine lv_bipush (v := 8) hx hb dL_law_359 (by decide) ?_
        refine lv_iadd hx hb dL_law_361 ?_
        refine lv_topi (fun x_100 ex_100 => ?_)
        have hx_100 := z_add ex_100 rfl (zk (x := 8) 8 rfl) (by omega) (by omega)
        refine va_sld hx hb hXs hbl hbA hS (z_in rfl (by omega) (by omega)) dL_law_362 ?_
        refine lq_top (v := s8) (by rw [hs8]; exact congrArg xs (by rw [z_nat (x := x_100) rfl]; omega)) ?_
        refine lv_aload_n hx hb dL_law_363 rfl (lv_at hl 0 rfl) ?_
        refine lv_iload hx hb dL_law_364 (lv_at hl 4 rfl) ?_
        refine lv_bipush (v := 9) hx hb dL_law_366 (by decide) ?_
        refine lv_iadd hx hb dL_law_368 ?_
        refine lv_topi (fun x_101 ex_101 => ?_)
        have hx_101 := z_add ex_101 rfl (zk (x := 9) 9 rfl) (by omega) (by omega)
        refine va_sld hx hb hXs hbl hbA hS (z_in rfl (by omega) (by omega)) dL_law_369 ?_
        refine lq_top (v := s9) (by rw [hs9]; exact congrArg xs (by rw [z_nat (x := x_101) rfl]; omega)) ?_
        have hFc := tw_free hF hS hA
        refine va_calli (va_runV (As := [.int s1, .int s2, .int s3, .int s4, .int s5, .int s6, .int s7, .int s8, .int s9]) (rest := []) ⟨hx, hb, hml, hown, hts⟩ (c_piece l dC dI ad av H.size a k τ ln y g u s1 s2 s3 s4 s5 s6 s7 s8 s9 hI ) (cwV 9 hts (gi_4 (im_law _ (List.mem_of_getElem? (i := 20) rfl)) (im_law _ (List.mem_of_getElem? (i := 21) rfl)) (im_law _ (List.mem_of_getElem? (i := 22) rfl)) (im_law _ (List.mem_of_getElem? (i := 3) rfl)) im_c_piece gd_c_piece) rfl rfl rfl (by decide +kernel) ⟨Nat.le_of_ble_eq_true rfl, Nat.le_of_ble_eq_true rfl⟩) ⟨pw_blind, tw_recv hK hT (fx_0 hX) (by decide) cl_e10 rfl, pw_use hT hK hFc hS hM⟩ rfl rfl hl.1 rfl (lv_room (Nat.le_of_ble_eq_true rfl)) dL_law_370 ⟨by show 200 + 4 * q + 1 ≤ 601024; omega, by show 60000 + 100 * q + 11 ≤ 7293034; omega⟩) hS (fun q _ h => hFc q h) hFc (fun r0 r_102 t H locs ht hvm hw hB hz1 hk1 hS => ?_)
        clear hvm hz1 hk1
        subst hw
        obtain ⟨um_103, hum_103, ⟨tm_103, lm_103, ym_103, gm_103, hMo, hKM, hI, hT⟩⟩ := hB
        rw [ht] at hT
        have hF : ∀ q, tm_103 q ≠ 0 → s.heap.size ≤ q := fun q h => hFc q (hMo.2 q h)
        have hJ := hJ.kp hKM hI.1
        have hW : IW (v 1) (v 2) (v 9) (ym_103 (a 89)) := by rw [hKM.fx hX (j := 89) (by decide) (by decide)]; exact hW
        have hTh : vb 38408 0 4800 (ym_103 (a 99)) := by rw [hKM.fx hX (j := 99) (by decide) (by decide)]; exact hTh
        have hX := hI.1
        have : um_103 8 = u 8 := hum_103 8 (by decide)
        refine lv_pop hx hb dL_law_373 rfl ?_
        refine lv_aload_n hx hb dL_law_374 rfl (lv_at hl 2 rfl) ?_
        refine lv_aload_n hx hb dL_law_375 rfl (lv_at hl 0 rfl) ?_
        refine lv_iload hx hb dL_law_376 (lv_at hl 4 rfl) ?_
        refine lv_iconst (v := 1) hx hb dL_law_378 (by decide) ?_
        refine lv_iadd hx hb dL_law_379 ?_
        refine lv_topi (fun x_104 ex_104 => ?_)
        have hx_104 := z_add ex_104 rfl (zk (x := 1) 1 rfl) (by omega) (by omega)
        refine va_sld hx hb hXs hbl hbA hS (z_in rfl (by omega) (by omega)) dL_law_380 ?_
        refine lq_top (v := s1) (by rw [hs1]; exact congrArg xs (by rw [z_nat (x := x_104) rfl]; omega)) ?_
        refine lv_aload_n hx hb dL_law_381 rfl (lv_at hl 0 rfl) ?_
        refine lv_iload hx hb dL_law_382 (lv_at hl 4 rfl) ?_
        refine lv_iconst (v := 2) hx hb dL_law_384 (by decide) ?_
        refine lv_iadd hx hb dL_law_385 ?_
        refine lv_topi (fun x_105 ex_105 => ?_)
        have hx_105 := z_add ex_105 rfl (zk (x := 2) 2 rfl) (by omega) (by omega)
        refine va_sld hx hb hXs hbl hbA hS (z_in rfl (by omega) (by omega)) dL_law_386 ?_
        refine lq_top (v := s2) (by rw [hs2]; exact congrArg xs (by rw [z_nat (x := x_105) rfl]; omega)) ?_
        refine lv_aload_n hx hb dL_law_387 rfl (lv_at hl 0 rfl) ?_
        refine lv_iload hx hb dL_law_388 (lv_at hl 4 rfl) ?_
        refine lv_iconst (v := 3) hx hb dL_law_390 (by decide) ?_
        refine lv_iadd hx hb dL_law_391 ?_
        refine lv_topi (fun x_106 ex_106 => ?_)
        have hx_106 := z_add ex_106 rfl (zk (x := 3) 3 rfl) (by omega) (by omega)
        refine va_sld hx hb hXs hbl hbA hS (z_in rfl (by omega) (by omega)) dL_law_392 ?_
        refine lq_top (v := s3) (by rw [hs3]; exact congrArg xs (by rw [z_nat (x := x_106) rfl]; omega)) ?_
        refine lv_aload_n hx hb dL_law_393 rfl (lv_at hl 0 rfl) ?_
        refine lv_iload hx hb dL_law_394 (lv_at hl 4 rfl) ?_
        refine lv_iconst (v := 4) hx hb dL_law_396 (by decide) ?_
        refine lv_iadd hx hb dL_law_397 ?_
        refine lv_topi (fun x_107 ex_107 => ?_)
        have hx_107 := z_add ex_107 rfl (zk (x := 4) 4 rfl) (by omega) (by omega)
        refine va_sld hx hb hXs hbl hbA hS (z_in rfl (by omega) (by omega)) dL_law_398 ?_
        refine lq_top (v := s4) (by rw [hs4]; exact congrArg xs (by rw [z_nat (x := x_107) rfl]; omega)) ?_
        refine lv_aload_n hx hb dL_law_399 rfl (lv_at hl 0 rfl) ?_
        refine lv_iload hx hb dL_law_400 (lv_at hl 4 rfl) ?_
        refine lv_iconst (v := 5) hx hb dL_law_402 (by decide) ?_
        refine lv_iadd hx hb dL_law_403 ?_
        refine lv_topi (fun x_108 ex_108 => ?_)
        have hx_108 := z_add ex_108 rfl (zk (x := 5) 5 rfl) (by omega) (by omega)
        refine va_sld hx hb hXs hbl hbA hS (z_in rfl (by omega) (by omega)) dL_law_404 ?_
        refine lq_top (v := s5) (by rw [hs5]; exact congrArg xs (by rw [z_nat (x := x_108) rfl]; omega)) ?_
        refine lv_aload_n hx hb dL_law_405 rfl (lv_at hl 0 rfl) ?_
        refine lv_iload hx hb dL_law_406 (lv_at hl 4 rfl) ?_
        refine lv_bipush (v := 6) hx hb dL_law_408 (by decide) ?_
        refine lv_iadd hx hb dL_law_410 ?_
        refine lv_topi (fun x_109 ex_109 => ?_)
        have hx_109 := z_add ex_109 rfl (zk (x := 6) 6 rfl) (by omega) (by omega)
        refine va_sld hx hb hXs hbl hbA hS (z_in rfl (by omega) (by omega)) dL_law_411 ?_
        refine lq_top (v := s6) (by rw [hs6]; exact congrArg xs (by rw [z_nat (x := x_109) rfl]; omega)) ?_
        refine lv_aload_n hx hb dL_law_412 rfl (lv_at hl 0 rfl) ?_
        refine lv_iload hx hb dL_law_413 (lv_at hl 4 rfl) ?_
        refine lv_bipush (v := 7) hx hb dL_law_415 (by decide) ?_
        refine lv_iadd hx hb dL_law_417 ?_
        refine lv_topi (fun x_110 ex_110 => ?_)
        have hx_110 := z_add ex_110 rfl (zk (x := 7) 7 rfl) (by omega) (by omega)
        refine va_sld hx hb hXs hbl hbA hS (z_in rfl (by omega) (by omega)) dL_law_418 ?_
        refine lq_top (v := s7) (by rw [hs7]; exact congrArg xs (by rw [z_nat (x := x_110) rfl]; omega)) ?_
        refine lv_aload_n hx hb dL_law_419 rfl (lv_at hl 0 rfl) ?_
        refine lv_iload hx hb dL_law_420 (lv_at hl 4 rfl) ?_
        refine lv_bipush (v := 8) hx hb dL_law_422 (by decide) ?_
        refine lv_iadd hx hb dL_law_424 ?_
        refine lv_topi (fun x_111 ex_111 => ?_)
        have hx_111 := z_add ex_111 rfl (zk (x := 8) 8 rfl) (by omega) (by omega)
        refine va_sld hx hb hXs hbl hbA hS (z_in rfl (by omega) (by omega)) dL_law_425 ?_
        refine lq_top (v := s8) (by rw [hs8]; exact congrArg xs (by rw [z_nat (x := x_111) rfl]; omega)) ?_
        refine lv_aload_n hx hb dL_law_426 rfl (lv_at hl 0 rfl) ?_
        refine lv_iload hx hb dL_law_427 (lv_at hl 4 rfl) ?_
        refine lv_bipush (v := 9) hx hb dL_law_429 (by decide) ?_
        refine lv_iadd hx hb dL_law_431 ?_
        refine lv_topi (fun x_112 ex_112 => ?_)
        have hx_112 := z_add ex_112 rfl (zk (x := 9) 9 rfl) (by omega) (by omega)
        refine va_sld hx hb hXs hbl hbA hS (z_in rfl (by omega) (by omega)) dL_law_432 ?_
        refine lq_top (v := s9) (by rw [hs9]; exact congrArg xs (by rw [z_nat (x := x_112) rfl]; omega)) ?_
        have hFc := tw_free hF hS hA
        refine va_calli (va_runV (As := [.int s1, .int s2, .int s3, .int s4, .int s5, .int s6, .int s7, .int s8, .int s9]) (rest := []) ⟨hx, hb, hml, hown, hts⟩ (m_pieceN l dC dI ad av H.size a k tm_103 lm_103 ym_103 gm_103 v s1 s2 s3 s4 s5 s6 s7 s8 s9 hJ hW) (cwV 9 hts (gi_4 (im_law _ (List.mem_of_getElem? (i := 23) rfl)) (im_law _ (List.mem_of_getElem? (i := 24) rfl)) (im_law _ (List.mem_of_getElem? (i := 25) rfl)) (im_law _ (List.mem_of_getElem? (i := 7) rfl)) im_m_pieceN gd_m_pieceN) rfl rfl rfl (by decide +kernel) ⟨Nat.le_of_ble_eq_true rfl, Nat.le_of_ble_eq_true rfl⟩) ⟨pw_blind, tw_recv hK hT (fx_50 hX) (by decide) cl_e60 rfl, pw_use hT hK hFc hS hM⟩ rfl rfl hl.1 rfl (lv_room (Nat.le_of_ble_eq_true rfl)) dL_law_433 ⟨by show 200 + 4 * q + 1 + 0 ≤ 601024; omega, by show 60000 + 100 * q + 11 + 0 ≤ 7293034; omega⟩) hS (fun q _ h => hFc q h) hFc (fun r0 r_113 t H locs ht hvm hw hB hz1 hk1 hS => ?_)
        clear hvm hz1 hk1
        subst hw
        obtain ⟨um_114, ym_114, gm_114, hum_114, hgm_114, hggm_114, hJ, hW, hT⟩ := hB
        rw [ht] at hT
        have hI := hI.ag hgm_114 (by decide)
        have hI := hI.agg hggm_114
        have hTh : vb 38408 0 4800 (ym_114 (a 99)) := by rw [hgm_114.at (fx_99 hX) (by decide)]; exact hTh
        have : um_114 8 = v 8 := hum_114 8 (by decide)
        have : um_114 3 = v 3 := hum_114 3 (by decide)
        have : um_114 10 = v 10 := hum_114 10 (by decide)
        refine lv_pop hx hb dL_law_436 rfl ?_
        refine lv_goto (tgt := 1360) hx hb dL_law_437 (by decide) ?_
        obtain ⟨x_115, ex_115⟩ : ∃ y : Int32, y = i4 + Int32.ofInt 10 := ⟨_, rfl⟩
        have hx_115 := z_add ex_115 rfl (zk (x := Int32.ofInt 10) 10 rfl) (by omega) (by omega)
        refine lv_iinc (v := x_115) (lv' := [(4, .int x_115), (0, .ref b), (1, .ref (a 0)), (2, .ref (a 50)), (3, .ref (a 49))]) hx hb dL_law_1360 hl (k := 4) rfl ex_115.symm (by decide) rfl (fun ls hl => ?_)
        refine lv_goto (tgt := 23) hx hb dL_law_1363 (by decide) ?_
        refine W.widen (k := 200 + 4 * (q + 1)) (n := 60000 + 100 * (q + 1)) (by omega) (by omega) ?_
        exact ih (q + 1) x_115 tm_103 lm_103 ym_114 gm_114 um_103 um_114 H _ ls (by omega) hF hI hJ hW hTh (by omega) (by omega) (by omega) (by omega) (by omega) hT hS (lv_sub hl [1, 2, 3, 4, 0] rfl)
      · refine lq_top (v := 4) t_5 ?_
        have nt_5 := z_eq rfl (zk (x := 4) 4 rfl) t_5
        refine lv_tableIn (tgt := 440) hx hb dL_law_40 (by decide) (by decide) (off := 400) (by decide) (by decide) ?_
        refine lv_aload_n hx hb dL_law_440 rfl (lv_at hl 1 rfl) ?_
        refine lv_aload_n hx hb dL_law_441 rfl (lv_at hl 0 rfl) ?_
        refine lv_iload hx hb dL_law_442 (lv_at hl 4 rfl) ?_
        refine lv_iconst (v := 1) hx hb dL_law_444 (by decide) ?_
        refine lv_iadd hx hb dL_law_445 ?_
        refine lv_topi (fun x_116 ex_116 => ?_)
        have hx_116 := z_add ex_116 rfl (zk (x := 1) 1 rfl) (by omega) (by omega)
        refine va_sld hx hb hXs hbl hbA hS (z_in rfl (by omega) (by omega)) dL_law_446 ?_
        refine lq_top (v := s1) (by rw [hs1]; exact congrArg xs (by rw [z_nat (x := x_116) rfl]; omega)) ?_
        have hFc := tw_free hF hS hA
        refine va_calli (va_runV (As := [.int s1]) (rest := []) ⟨hx, hb, hml, hown, hts⟩ (c_sign l dC dI ad av H.size a k τ ln y g u s1 hI ) (cwV 1 hts (gi_4 (im_law _ (List.mem_of_getElem? (i := 26) rfl)) (im_law _ (List.mem_of_getElem? (i := 27) rfl)) (im_law _ (List.mem_of_getElem? (i := 28) rfl)) (im_law _ (List.mem_of_getElem? (i := 3) rfl)) im_c_sign gd_c_sign) rfl rfl rfl (by decide +kernel) ⟨Nat.le_of_ble_eq_true rfl, Nat.le_of_ble_eq_true rfl⟩) ⟨pw_blind, tw_recv hK hT (fx_0 hX) (by decide) cl_e10 rfl, pw_use hT hK hFc hS hM⟩ rfl rfl hl.1 rfl (lv_room (Nat.le_of_ble_eq_true rfl)) dL_law_447 ⟨by show 200 + 4 * q + 0 ≤ 601024; omega, by show 60000 + 100 * q + 0 ≤ 7293034; omega⟩) hS (fun q _ h => hFc q h) hFc (fun r0 r_117 t H locs ht hvm hw hB hz1 hk1 hS => ?_)
        clear hvm hz1 hk1
        subst hw
        obtain ⟨um_118, hum_118, ⟨tm_118, lm_118, ym_118, gm_118, hMo, hKM, hI, hT⟩⟩ := hB
        rw [ht] at hT
        have hF : ∀ q, tm_118 q ≠ 0 → s.heap.size ≤ q := fun q h => hFc q (hMo.2 q h)
        have hJ := hJ.kp hKM hI.1
        have hW : IW (v 1) (v 2) (v 9) (ym_118 (a 89)) := by rw [hKM.fx hX (j := 89) (by decide) (by decide)]; exact hW
        have hTh : vb 38408 0 4800 (ym_118 (a 99)) := by rw [hKM.fx hX (j := 99) (by decide) (by decide)]; exact hTh
        have hX := hI.1
        have : um_118 8 = u 8 := hum_118 8 (by decide)
        refine lv_pop hx hb dL_law_450 rfl ?_
        refine lv_aload_n hx hb dL_law_451 rfl (lv_at hl 2 rfl) ?_
        refine lv_aload_n hx hb dL_law_452 rfl (lv_at hl 0 rfl) ?_
        refine lv_iload hx hb dL_law_453 (lv_at hl 4 rfl) ?_
        refine lv_iconst (v := 1) hx hb dL_law_455 (by decide) ?_
        refine lv_iadd hx hb dL_law_456 ?_
        refine lv_topi (fun x_119 ex_119 => ?_)
        have hx_119 := z_add ex_119 rfl (zk (x := 1) 1 rfl) (by omega) (by omega)
        refine va_sld hx hb hXs hbl hbA hS (z_in rfl (by omega) (by omega)) dL_law_457 ?_
        refine lq_top (v := s1) (by rw [hs1]; exact congrArg xs (by rw [z_nat (x := x_119) rfl]; omega)) ?_
        have hFc := tw_free hF hS hA
        refine va_calli (va_runV (As := [.int s1]) (rest := []) ⟨hx, hb, hml, hown, hts⟩ (m_sign l dC dI ad av H.size a k tm_118 lm_118 ym_118 gm_118 v s1 hJ hW) (cwV 1 hts (gi_4 (im_law _ (List.mem_of_getElem? (i := 29) rfl)) (im_law _ (List.mem_of_getElem? (i := 30) rfl)) (im_law _ (List.mem_of_getElem? (i := 31) rfl)) (im_law _ (List.mem_of_getElem? (i := 7) rfl)) im_m_sign gd_m_sign) rfl rfl rfl (by decide +kernel) ⟨Nat.le_of_ble_eq_true rfl, Nat.le_of_ble_eq_true rfl⟩) ⟨pw_blind, tw_recv hK hT (fx_50 hX) (by decide) cl_e60 rfl, pw_use hT hK hFc hS hM⟩ rfl rfl hl.1 rfl (lv_room (Nat.le_of_ble_eq_true rfl)) dL_law_458 ⟨by show 200 + 4 * q + 0 + 0 ≤ 601024; omega, by show 60000 + 100 * q + 0 + 0 ≤ 7293034; omega⟩) hS (fun q _ h => hFc q h) hFc (fun r0 r_120 t H locs ht hvm hw hB hz1 hk1 hS => ?_)
        clear hvm hz1 hk1
        subst hw
        obtain ⟨um_121, ym_121, gm_121, hum_121, hgm_121, hggm_121, hJ, hT⟩ := hB
        rw [ht] at hT
        have hI := hI.ag hgm_121 (by decide)
        have hI := hI.agg hggm_121
        have hW : IW (um_121 1) (um_121 2) (um_121 9) (ym_121 (a 89)) := by rw [hgm_121.at (fx_89 hX) (by decide)]; exact iw_u hW (hum_121 1 (by decide)) (hum_121 2 (by decide)) (hum_121 9 (by decide))
        have hTh : vb 38408 0 4800 (ym_121 (a 99)) := by rw [hgm_121.at (fx_99 hX) (by decide)]; exact hTh
        have : um_121 8 = v 8 := hum_121 8 (by decide)
        have : um_121 3 = v 3 := hum_121 3 (by decide)
        have : um_121 10 = v 10 := hum_121 10 (by decide)
        refine lv_pop hx hb dL_law_461 rfl ?_
        refine lv_goto (tgt := 1360) hx hb dL_law_462 (by decide) ?_
        obtain ⟨x_122, ex_122⟩ : ∃ y : Int32, y = i4 + Int32.ofInt 10 := ⟨_, rfl⟩
        have hx_122 := z_add ex_122 rfl (zk (x := Int32.ofInt 10) 10 rfl) (by omega) (by omega)
        refine lv_iinc (v := x_122) (lv' := [(4, .int x_122), (0, .ref b), (1, .ref (a 0)), (2, .ref (a 50)), (3, .ref (a 49))]) hx hb dL_law_1360 hl (k := 4) rfl ex_122.symm (by decide) rfl (fun ls hl => ?_)
        refine lv_goto (tgt := 23) hx hb dL_law_1363 (by decide) ?_
        refine W.widen (k := 200 + 4 * (q + 1)) (n := 60000 + 100 * (q + 1)) (by omega) (by omega) ?_
        exact ih (q + 1) x_122 tm_118 lm_118 ym_121 gm_121 um_118 um_121 H _ ls (by omega) hF hI hJ hW hTh (by omega) (by omega) (by omega) (by omega) (by omega) hT hS (lv_sub hl [1, 2, 3, 4, 0] rfl)
      · refine lq_top (v := 5) t_5 ?_
        have nt_5 := z_eq rfl (zk (x := 5) 5 rfl) t_5
        refine lv_tableIn (tgt := 465) hx hb dL_law_40 (by decide) (by decide) (off := 425) (by decide) (by decide) ?_
        refine lv_aload_n hx hb dL_law_465 rfl (lv_at hl 1 rfl) ?_
        refine lv_aload_n hx hb dL_law_466 rfl (lv_at hl 0 rfl) ?_
        refine lv_iload hx hb dL_law_467 (lv_at hl 4 rfl) ?_
        refine lv_iconst (v := 1) hx hb dL_law_469 (by decide) ?_
        refine lv_iadd hx hb dL_law_470 ?_
        refine lv_topi (fun x_123 ex_123 => ?_)
        have hx_123 := z_add ex_123 rfl (zk (x := 1) 1 rfl) (by omega) (by omega)
        refine va_sld hx hb hXs hbl hbA hS (z_in rfl (by omega) (by omega)) dL_law_471 ?_
        refine lq_top (v := s1) (by rw [hs1]; exact congrArg xs (by rw [z_nat (x := x_123) rfl]; omega)) ?_
        have hFc := tw_free hF hS hA
        refine va_calli (va_runV (As := [.int s1]) (rest := []) ⟨hx, hb, hml, hown, hts⟩ (c_end l dC dI ad av H.size a k τ ln y g u s1 hI ) (cwV 1 hts (gi_4 (im_law _ (List.mem_of_getElem? (i := 32) rfl)) (im_law _ (List.mem_of_getElem? (i := 33) rfl)) (im_law _ (List.mem_of_getElem? (i := 34) rfl)) (im_law _ (List.mem_of_getElem? (i := 3) rfl)) im_c_end gd_c_end) rfl rfl rfl (by decide +kernel) ⟨Nat.le_of_ble_eq_true rfl, Nat.le_of_ble_eq_true rfl⟩) ⟨pw_blind, tw_recv hK hT (fx_0 hX) (by decide) cl_e10 rfl, pw_use hT hK hFc hS hM⟩ rfl rfl hl.1 rfl (lv_room (Nat.le_of_ble_eq_true rfl)) dL_law_472 ⟨by show 200 + 4 * q + 0 ≤ 601024; omega, by show 60000 + 100 * q + 0 ≤ 7293034; omega⟩) hS (fun q _ h => hFc q h) hFc (fun r0 r_124 t H locs ht hvm hw hB hz1 hk1 hS => ?_)
        clear hvm hz1 hk1
        subst hw
        rcases hB with ⟨um_125, hre, hum_125, ⟨tm_125, lm_125, ym_125, gm_125, hMo, hKM, hI, hT⟩⟩ | ⟨um_126, hre, hum_126, ⟨tm_126, lm_126, ym_126, gm_126, hMo, hKM, hI, hT⟩⟩
        · refine lq_top (v := 1) hre ?_
          rw [ht] at hT
          have hF : ∀ q, tm_125 q ≠ 0 → s.heap.size ≤ q := fun q h => hFc q (hMo.2 q h)
          have hJ := hJ.kp hKM hI.1
          have hW : IW (v 1) (v 2) (v 9) (ym_125 (a 89)) := by rw [hKM.fx hX (j := 89) (by decide) (by decide)]; exact hW
          have hTh : vb 38408 0 4800 (ym_125 (a 99)) := by rw [hKM.fx hX (j := 99) (by decide) (by decide)]; exact hTh
          have hX := hI.1
          have : um_125 8 = u 8 := hum_125 8 (by decide)
          refine lv_pop hx hb dL_law_475 rfl ?_
          refine lv_aload_n hx hb dL_law_476 rfl (lv_at hl 2 rfl) ?_
          refine lv_aload_n hx hb dL_law_477 rfl (lv_at hl 0 rfl) ?_
          refine lv_iload hx hb dL_law_478 (lv_at hl 4 rfl) ?_
          refine lv_iconst (v := 1) hx hb dL_law_480 (by decide) ?_
          refine lv_iadd hx hb dL_law_481 ?_
          refine lv_topi (fun x_127 ex_127 => ?_)
          have hx_127 := z_add ex_127 rfl (zk (x := 1) 1 rfl) (by omega) (by omega)
          refine va_sld hx hb hXs hbl hbA hS (z_in rfl (by omega) (by omega)) dL_law_482 ?_
          refine lq_top (v := s1) (by rw [hs1]; exact congrArg xs (by rw [z_nat (x := x_127) rfl]; omega)) ?_
          have hFc := tw_free hF hS hA
          refine va_calli (va_runV (As := [.int s1]) (rest := []) ⟨hx, hb, hml, hown, hts⟩ (m_end l dC dI ad av H.size a k tm_125 lm_125 ym_125 gm_125 v s1 hJ hW) (cwV 1 hts (gi_4 (im_law _ (List.mem_of_getElem? (i := 35) rfl)) (im_law _ (List.mem_of_getElem? (i := 36) rfl)) (im_law _ (List.mem_of_getElem? (i := 37) rfl)) (im_law _ (List.mem_of_getElem? (i := 7) rfl)) im_m_end gd_m_end) rfl rfl rfl (by decide +kernel) ⟨Nat.le_of_ble_eq_true rfl, Nat.le_of_ble_eq_true rfl⟩) ⟨pw_blind, tw_recv hK hT (fx_50 hX) (by decide) cl_e60 rfl, pw_use hT hK hFc hS hM⟩ rfl rfl hl.1 rfl (lv_room (Nat.le_of_ble_eq_true rfl)) dL_law_483 ⟨by show 200 + 4 * q + 0 + 0 ≤ 601024; omega, by show 60000 + 100 * q + 0 + 0 ≤ 7293034; omega⟩) hS (fun q _ h => hFc q h) hFc (fun r0 r_128 t H locs ht hvm hw hB hz1 hk1 hS => ?_)
          clear hvm hz1 hk1
          subst hw
          rcases hB with ⟨um_129, ym_129, gm_129, hre, hum_129, hgm_129, hggm_129, hJ, hT⟩ | ⟨um_130, ym_130, gm_130, hre, hum_130, hgm_130, hggm_130, hJ, hT⟩
          · refine lq_top (v := 1) hre ?_
            rw [ht] at hT
            have hI := hI.ag hgm_129 (by decide)
            have hI := hI.agg hggm_129
            have hW : IW (um_129 1) (um_129 2) (um_129 9) (ym_129 (a 89)) := by rw [hgm_129.at (fx_89 hX) (by decide)]; exact iw_u hW (hum_129 1 (by decide)) (hum_129 2 (by decide)) (hum_129 9 (by decide))
            have hTh : vb 38408 0 4800 (ym_129 (a 99)) := by rw [hgm_129.at (fx_99 hX) (by decide)]; exact hTh
            have : um_129 8 = v 8 := hum_129 8 (by decide)
            have : um_129 3 = v 3 := hum_129 3 (by decide)
            have : um_129 10 = v 10 := hum_129 10 (by decide)
            refine lv_pop hx hb dL_law_486 rfl ?_
            refine lv_goto (tgt := 1360) hx hb dL_law_487 (by decide) ?_
            obtain ⟨x_131, ex_131⟩ : ∃ y : Int32, y = i4 + Int32.ofInt 10 := ⟨_, rfl⟩
            have hx_131 := z_add ex_131 rfl (zk (x := Int32.ofInt 10) 10 rfl) (by omega) (by omega)
            refine lv_iinc (v := x_131) (lv' := [(4, .int x_131), (0, .ref b), (1, .ref (a 0)), (2, .ref (a 50)), (3, .ref (a 49))]) hx hb dL_law_1360 hl (k := 4) rfl ex_131.symm (by decide) rfl (fun ls hl => ?_)
            refine lv_goto (tgt := 23) hx hb dL_law_1363 (by decide) ?_
            refine W.widen (k := 200 + 4 * (q + 1)) (n := 60000 + 100 * (q + 1)) (by omega) (by omega) ?_
            exact ih (q + 1) x_131 tm_125 lm_125 ym_129 gm_129 um_125 um_129 H _ ls (by omega) hF hI hJ hW hTh (by omega) (by omega) (by omega) (by omega) (by omega) hT hS (lv_sub hl [1, 2, 3, 4, 0] rfl)
          · refine lq_top (v := 0) hre ?_
            rw [ht] at hT
            have hI := hI.ag hgm_130 (by decide)
            have hI := hI.agg hggm_130
            have hW : IW (um_130 1) (um_130 2) (um_130 9) (ym_130 (a 89)) := by rw [hgm_130.at (fx_89 hX) (by decide)]; exact iw_u hW (hum_130 1 (by decide)) (hum_130 2 (by decide)) (hum_130 9 (by decide))
            have hTh : vb 38408 0 4800 (ym_130 (a 99)) := by rw [hgm_130.at (fx_99 hX) (by decide)]; exact hTh
            have : um_130 8 = v 8 := hum_130 8 (by decide)
            have : um_130 3 = v 3 := hum_130 3 (by decide)
            have : um_130 10 = v 10 := hum_130 10 (by decide)
            refine lv_pop hx hb dL_law_486 rfl ?_
            refine lv_goto (tgt := 1360) hx hb dL_law_487 (by decide) ?_
            obtain ⟨x_132, ex_132⟩ : ∃ y : Int32, y = i4 + Int32.ofInt 10 := ⟨_, rfl⟩
            have hx_132 := z_add ex_132 rfl (zk (x := Int32.ofInt 10) 10 rfl) (by omega) (by omega)
            refine lv_iinc (v := x_132) (lv' := [(4, .int x_132), (0, .ref b), (1, .ref (a 0)), (2, .ref (a 50)), (3, .ref (a 49))]) hx hb dL_law_1360 hl (k := 4) rfl ex_132.symm (by decide) rfl (fun ls hl => ?_)
            refine lv_goto (tgt := 23) hx hb dL_law_1363 (by decide) ?_
            refine W.widen (k := 200 + 4 * (q + 1)) (n := 60000 + 100 * (q + 1)) (by omega) (by omega) ?_
            exact ih (q + 1) x_132 tm_125 lm_125 ym_130 gm_130 um_125 um_130 H _ ls (by omega) hF hI hJ hW hTh (by omega) (by omega) (by omega) (by omega) (by omega) hT hS (lv_sub hl [1, 2, 3, 4, 0] rfl)
        · refine lq_top (v := 0) hre ?_
          rw [ht] at hT
          have hF : ∀ q, tm_126 q ≠ 0 → s.heap.size ≤ q := fun q h => hFc q (hMo.2 q h)
          have hJ := hJ.kp hKM hI.1
          have hW : IW (v 1) (v 2) (v 9) (ym_126 (a 89)) := by rw [hKM.fx hX (j := 89) (by decide) (by decide)]; exact hW
          have hTh : vb 38408 0 4800 (ym_126 (a 99)) := by rw [hKM.fx hX (j := 99) (by decide) (by decide)]; exact hTh
          have hX := hI.1
          have : um_126 8 = u 8 := hum_126 8 (by decide)
          refine lv_pop hx hb dL_law_475 rfl ?_
          refine lv_aload_n hx hb dL_law_476 rfl (lv_at hl 2 rfl) ?_
          refine lv_aload_n hx hb dL_law_477 rfl (lv_at hl 0 rfl) ?_
          refine lv_iload hx hb dL_law_478 (lv_at hl 4 rfl) ?_
          refine lv_iconst (v := 1) hx hb dL_law_480 (by decide) ?_
          refine lv_iadd hx hb dL_law_481 ?_
          refine lv_topi (fun x_133 ex_133 => ?_)
          have hx_133 := z_add ex_133 rfl (zk (x := 1) 1 rfl) (by omega) (by omega)
          refine va_sld hx hb hXs hbl hbA hS (z_in rfl (by omega) (by omega)) dL_law_482 ?_
          refine lq_top (v := s1) (by rw [hs1]; exact congrArg xs (by rw [z_nat (x := x_133) rfl]; omega)) ?_
          have hFc := tw_free hF hS hA
          refine va_calli (va_runV (As := [.int s1]) (rest := []) ⟨hx, hb, hml, hown, hts⟩ (m_end l dC dI ad av H.size a k tm_126 lm_126 ym_126 gm_126 v s1 hJ hW) (cwV 1 hts (gi_4 (im_law _ (List.mem_of_getElem? (i := 35) rfl)) (im_law _ (List.mem_of_getElem? (i := 36) rfl)) (im_law _ (List.mem_of_getElem? (i := 37) rfl)) (im_law _ (List.mem_of_getElem? (i := 7) rfl)) im_m_end gd_m_end) rfl rfl rfl (by decide +kernel) ⟨Nat.le_of_ble_eq_true rfl, Nat.le_of_ble_eq_true rfl⟩) ⟨pw_blind, tw_recv hK hT (fx_50 hX) (by decide) cl_e60 rfl, pw_use hT hK hFc hS hM⟩ rfl rfl hl.1 rfl (lv_room (Nat.le_of_ble_eq_true rfl)) dL_law_483 ⟨by show 200 + 4 * q + 0 + 0 ≤ 601024; omega, by show 60000 + 100 * q + 0 + 0 ≤ 7293034; omega⟩) hS (fun q _ h => hFc q h) hFc (fun r0 r_134 t H locs ht hvm hw hB hz1 hk1 hS => ?_)
          clear hvm hz1 hk1
          subst hw
          rcases hB with ⟨um_135, ym_135, gm_135, hre, hum_135, hgm_135, hggm_135, hJ, hT⟩ | ⟨um_136, ym_136, gm_136, hre, hum_136, hgm_136, hggm_136, hJ, hT⟩
          · refine lq_top (v := 1) hre ?_
            rw [ht] at hT
            have hI := hI.ag hgm_135 (by decide)
            have hI := hI.agg hggm_135
            have hW : IW (um_135 1) (um_135 2) (um_135 9) (ym_135 (a 89)) := by rw [hgm_135.at (fx_89 hX) (by decide)]; exact iw_u hW (hum_135 1 (by decide)) (hum_135 2 (by decide)) (hum_135 9 (by decide))
            have hTh : vb 38408 0 4800 (ym_135 (a 99)) := by rw [hgm_135.at (fx_99 hX) (by decide)]; exact hTh
            have : um_135 8 = v 8 := hum_135 8 (by decide)
            have : um_135 3 = v 3 := hum_135 3 (by decide)
            have : um_135 10 = v 10 := hum_135 10 (by decide)
            refine lv_pop hx hb dL_law_486 rfl ?_
            refine lv_goto (tgt := 1360) hx hb dL_law_487 (by decide) ?_
            obtain ⟨x_137, ex_137⟩ : ∃ y : Int32, y = i4 + Int32.ofInt 10 := ⟨_, rfl⟩
            have hx_137 := z_add ex_137 rfl (zk (x := Int32.ofInt 10) 10 rfl) (by omega) (by omega)
            refine lv_iinc (v := x_137) (lv' := [(4, .int x_137), (0, .ref b), (1, .ref (a 0)), (2, .ref (a 50)), (3, .ref (a 49))]) hx hb dL_law_1360 hl (k := 4) rfl ex_137.symm (by decide) rfl (fun ls hl => ?_)
            refine lv_goto (tgt := 23) hx hb dL_law_1363 (by decide) ?_
            refine W.widen (k := 200 + 4 * (q + 1)) (n := 60000 + 100 * (q + 1)) (by omega) (by omega) ?_
            exact ih (q + 1) x_137 tm_126 lm_126 ym_135 gm_135 um_126 um_135 H _ ls (by omega) hF hI hJ hW hTh (by omega) (by omega) (by omega) (by omega) (by omega) hT hS (lv_sub hl [1, 2, 3, 4, 0] rfl)
          · refine lq_top (v := 0) hre ?_
            rw [ht] at hT
            have hI := hI.ag hgm_136 (by decide)
            have hI := hI.agg hggm_136
            have hW : IW (um_136 1) (um_136 2) (um_136 9) (ym_136 (a 89)) := by rw [hgm_136.at (fx_89 hX) (by decide)]; exact iw_u hW (hum_136 1 (by decide)) (hum_136 2 (by decide)) (hum_136 9 (by decide))
            have hTh : vb 38408 0 4800 (ym_136 (a 99)) := by rw [hgm_136.at (fx_99 hX) (by decide)]; exact hTh
            have : um_136 8 = v 8 := hum_136 8 (by decide)
            have : um_136 3 = v 3 := hum_136 3 (by decide)
            have : um_136 10 = v 10 := hum_136 10 (by decide)
            refine lv_pop hx hb dL_law_486 rfl ?_
            refine lv_goto (tgt := 1360) hx hb dL_law_487 (by decide) ?_
            obtain ⟨x_138, ex_138⟩ : ∃ y : Int32, y = i4 + Int32.ofInt 10 := ⟨_, rfl⟩
            have hx_138 := z_add ex_138 rfl (zk (x := Int32.ofInt 10) 10 rfl) (by omega) (by omega)
            refine lv_iinc (v := x_138) (lv' := [(4, .int x_138), (0, .ref b), (1, .ref (a 0)), (2, .ref (a 50)), (3, .ref (a 49))]) hx hb dL_law_1360 hl (k := 4) rfl ex_138.symm (by decide) rfl (fun ls hl => ?_)
            refine lv_goto (tgt := 23) hx hb dL_law_1363 (by decide) ?_
            refine W.widen (k := 200 + 4 * (q + 1)) (n := 60000 + 100 * (q + 1)) (by omega) (by omega) ?_
            exact ih (q + 1) x_138 tm_126 lm_126 ym_136 gm_136 um_126 um_136 H _ ls (by omega) hF hI hJ hW hTh (by omega) (by omega) (by omega) (by omega) (by omega) hT hS (lv_sub hl [1, 2, 3, 4, 0] rfl)
      · refine lq_top (v := 6) t_5 ?_
        have nt_5 := z_eq rfl (zk (x := 6) 6 rfl) t_5
        refine lv_tableIn (tgt := 490) hx hb dL_law_40 (by decide) (by decide) (off := 450) (by decide) (by decide) ?_
        refine lv_aload_n hx hb dL_law_490 rfl (lv_at hl 1 rfl) ?_
        refine lv_aload_n hx hb dL_law_491 rfl (lv_at hl 0 rfl) ?_
        refine lv_iload hx hb dL_law_492 (lv_at hl 4 rfl) ?_
        refine lv_iconst (v := 1) hx hb dL_law_494 (by decide) ?_
        refine lv_iadd hx hb dL_law_495 ?_
        refine lv_topi (fun x_139 ex_139 => ?_)
        have hx_139 := z_add ex_139 rfl (zk (x := 1) 1 rfl) (by omega) (by omega)
        refine va_sld hx hb hXs hbl hbA hS (z_in rfl (by omega) (by omega)) dL_law_496 ?_
        refine lq_top (v := s1) (by rw [hs1]; exact congrArg xs (by rw [z_nat (x := x_139) rfl]; omega)) ?_
        refine lv_aload_n hx hb dL_law_497 rfl (lv_at hl 0 rfl) ?_
        refine lv_iload hx hb dL_law_498 (lv_at hl 4 rfl) ?_
        refine lv_iconst (v := 2) hx hb dL_law_500 (by decide) ?_
        refine lv_iadd hx hb dL_law_501 ?_
        refine lv_topi (fun x_140 ex_140 => ?_)
        have hx_140 := z_add ex_140 rfl (zk (x := 2) 2 rfl) (by omega) (by omega)
        refine va_sld hx hb hXs hbl hbA hS (z_in rfl (by omega) (by omega)) dL_law_502 ?_
        refine lq_top (v := s2) (by rw [hs2]; exact congrArg xs (by rw [z_nat (x := x_140) rfl]; omega)) ?_
        have hFc := tw_free hF hS hA
        refine va_calli (va_runV (As := [.int s1, .int s2]) (rest := []) ⟨hx, hb, hml, hown, hts⟩ (c_rule l dC dI ad av H.size a k τ ln y g u s1 s2 hI ) (cwV 2 hts (gi_4 (im_law _ (List.mem_of_getElem? (i := 38) rfl)) (im_law _ (List.mem_of_getElem? (i := 39) rfl)) (im_law _ (List.mem_of_getElem? (i := 40) rfl)) (im_law _ (List.mem_of_getElem? (i := 3) rfl)) im_c_rule gd_c_rule) rfl rfl rfl (by decide +kernel) ⟨Nat.le_of_ble_eq_true rfl, Nat.le_of_ble_eq_true rfl⟩) ⟨pw_blind, tw_recv hK hT (fx_0 hX) (by decide) cl_e10 rfl, pw_use hT hK hFc hS hM⟩ rfl rfl hl.1 rfl (lv_room (Nat.le_of_ble_eq_true rfl)) dL_law_503 ⟨by show 200 + 4 * q + 2 ≤ 601024; omega, by show 60000 + 100 * q + 63 ≤ 7293034; omega⟩) hS (fun q _ h => hFc q h) hFc (fun r0 r_141 t H locs ht hvm hw hB hz1 hk1 hS => ?_)
        clear hvm hz1 hk1
        subst hw
        obtain ⟨um_142, hum_142, ⟨tm_142, lm_142, ym_142, gm_142, hMo, hKM, hI, hT⟩⟩ := hB
        rw [ht] at hT
        have hF : ∀ q, tm_142 q ≠ 0 → s.heap.size ≤ q := fun q h => hFc q (hMo.2 q h)
        have hJ := hJ.kp hKM hI.1
        have hW : IW (v 1) (v 2) (v 9) (ym_142 (a 89)) := by rw [hKM.fx hX (j := 89) (by decide) (by decide)]; exact hW
        have hTh : vb 38408 0 4800 (ym_142 (a 99)) := by rw [hKM.fx hX (j := 99) (by decide) (by decide)]; exact hTh
        have hX := hI.1
        have : um_142 8 = u 8 := hum_142 8 (by decide)
        refine lv_pop hx hb dL_law_506 rfl ?_
        refine lv_aload_n hx hb dL_law_507 rfl (lv_at hl 2 rfl) ?_
        refine lv_aload_n hx hb dL_law_508 rfl (lv_at hl 0 rfl) ?_
        refine lv_iload hx hb dL_law_509 (lv_at hl 4 rfl) ?_
        refine lv_iconst (v := 1) hx hb dL_law_511 (by decide) ?_
        refine lv_iadd hx hb dL_law_512 ?_
        refine lv_topi (fun x_143 ex_143 => ?_)
        have hx_143 := z_add ex_143 rfl (zk (x := 1) 1 rfl) (by omega) (by omega)
        refine va_sld hx hb hXs hbl hbA hS (z_in rfl (by omega) (by omega)) dL_law_513 ?_
        refine lq_top (v := s1) (by rw [hs1]; exact congrArg xs (by rw [z_nat (x := x_143) rfl]; omega)) ?_
        refine lv_aload_n hx hb dL_law_514 rfl (lv_at hl 0 rfl) ?_
        refine lv_iload hx hb dL_law_515 (lv_at hl 4 rfl) ?_
        refine lv_iconst (v := 2) hx hb dL_law_517 (by decide) ?_
        refine lv_iadd hx hb dL_law_518 ?_
        refine lv_topi (fun x_144 ex_144 => ?_)
        have hx_144 := z_add ex_144 rfl (zk (x := 2) 2 rfl) (by omega) (by omega)
        refine va_sld hx hb hXs hbl hbA hS (z_in rfl (by omega) (by omega)) dL_law_519 ?_
        refine lq_top (v := s2) (by rw [hs2]; exact congrArg xs (by rw [z_nat (x := x_144) rfl]; omega)) ?_
        have hFc := tw_free hF hS hA
        refine va_calli (va_runV (As := [.int s1, .int s2]) (rest := []) ⟨hx, hb, hml, hown, hts⟩ (m_rule l dC dI ad av H.size a k tm_142 lm_142 ym_142 gm_142 v s1 s2 hJ hW) (cwV 2 hts (gi_4 (im_law _ (List.mem_of_getElem? (i := 41) rfl)) (im_law _ (List.mem_of_getElem? (i := 42) rfl)) (im_law _ (List.mem_of_getElem? (i := 43) rfl)) (im_law _ (List.mem_of_getElem? (i := 7) rfl)) im_m_rule gd_m_rule) rfl rfl rfl (by decide +kernel) ⟨Nat.le_of_ble_eq_true rfl, Nat.le_of_ble_eq_true rfl⟩) ⟨pw_blind, tw_recv hK hT (fx_50 hX) (by decide) cl_e60 rfl, pw_use hT hK hFc hS hM⟩ rfl rfl hl.1 rfl (lv_room (Nat.le_of_ble_eq_true rfl)) dL_law_520 ⟨by show 200 + 4 * q + 2 + 0 ≤ 601024; omega, by show 60000 + 100 * q + 63 + 0 ≤ 7293034; omega⟩) hS (fun q _ h => hFc q h) hFc (fun r0 r_145 t H locs ht hvm hw hB hz1 hk1 hS => ?_)
        clear hvm hz1 hk1
        subst hw
        obtain ⟨um_146, ym_146, gm_146, hum_146, hgm_146, hggm_146, hJ, hT⟩ := hB
        rw [ht] at hT
        have hI := hI.ag hgm_146 (by decide)
        have hI := hI.agg hggm_146
        have hW : IW (um_146 1) (um_146 2) (um_146 9) (ym_146 (a 89)) := by rw [hgm_146.at (fx_89 hX) (by decide)]; exact iw_u hW (hum_146 1 (by decide)) (hum_146 2 (by decide)) (hum_146 9 (by decide))
        have hTh : vb 38408 0 4800 (ym_146 (a 99)) := by rw [hgm_146.at (fx_99 hX) (by decide)]; exact hTh
        have : um_146 8 = v 8 := hum_146 8 (by decide)
        have : um_146 3 = v 3 := hum_146 3 (by decide)
        have : um_146 10 = v 10 := hum_146 10 (by decide)
        refine lv_pop hx hb dL_law_523 rfl ?_
        refine lv_goto (tgt := 1360) hx hb dL_law_524 (by decide) ?_
        obtain ⟨x_147, ex_147⟩ : ∃ y : Int32, y = i4 + Int32.ofInt 10 := ⟨_, rfl⟩
        have hx_147 := z_add ex_147 rfl (zk (x := Int32.ofInt 10) 10 rfl) (by omega) (by omega)
        refine lv_iinc (v := x_147) (lv' := [(4, .int x_147), (0, .ref b), (1, .ref (a 0)), (2, .ref (a 50)), (3, .ref (a 49))]) hx hb dL_law_1360 hl (k := 4) rfl ex_147.symm (by decide) rfl (fun ls hl => ?_)
        refine lv_goto (tgt := 23) hx hb dL_law_1363 (by decide) ?_
        refine W.widen (k := 200 + 4 * (q + 1)) (n := 60000 + 100 * (q + 1)) (by omega) (by omega) ?_
        exact ih (q + 1) x_147 tm_142 lm_142 ym_146 gm_146 um_142 um_146 H _ ls (by omega) hF hI hJ hW hTh (by omega) (by omega) (by omega) (by omega) (by omega) hT hS (lv_sub hl [1, 2, 3, 4, 0] rfl)
      · refine lq_top (v := 7) t_5 ?_
        have nt_5 := z_eq rfl (zk (x := 7) 7 rfl) t_5
        refine lv_tableIn (tgt := 527) hx hb dL_law_40 (by decide) (by decide) (off := 487) (by decide) (by decide) ?_
        refine lv_aload_n hx hb dL_law_527 rfl (lv_at hl 1 rfl) ?_
        refine lv_aload_n hx hb dL_law_528 rfl (lv_at hl 0 rfl) ?_
        refine lv_iload hx hb dL_law_529 (lv_at hl 4 rfl) ?_
        refine lv_iconst (v := 1) hx hb dL_law_531 (by decide) ?_
        refine lv_iadd hx hb dL_law_532 ?_
        refine lv_topi (fun x_148 ex_148 => ?_)
        have hx_148 := z_add ex_148 rfl (zk (x := 1) 1 rfl) (by omega) (by omega)
        refine va_sld hx hb hXs hbl hbA hS (z_in rfl (by omega) (by omega)) dL_law_533 ?_
        refine lq_top (v := s1) (by rw [hs1]; exact congrArg xs (by rw [z_nat (x := x_148) rfl]; omega)) ?_
        have hFc := tw_free hF hS hA
        refine va_calli (va_runV (As := [.int s1]) (rest := []) ⟨hx, hb, hml, hown, hts⟩ (c_step l dC dI ad av H.size a k τ ln y g u s1 hI ) (cwV 1 hts (gi_4 (im_law _ (List.mem_of_getElem? (i := 44) rfl)) (im_law _ (List.mem_of_getElem? (i := 45) rfl)) (im_law _ (List.mem_of_getElem? (i := 46) rfl)) (im_law _ (List.mem_of_getElem? (i := 3) rfl)) im_c_step gd_c_step) rfl rfl rfl (by decide +kernel) ⟨Nat.le_of_ble_eq_true rfl, Nat.le_of_ble_eq_true rfl⟩) ⟨pw_blind, tw_recv hK hT (fx_0 hX) (by decide) cl_e10 rfl, pw_use hT hK hFc hS hM⟩ rfl rfl hl.1 rfl (lv_room (Nat.le_of_ble_eq_true rfl)) dL_law_534 ⟨by show 200 + 4 * q + 0 ≤ 601024; omega, by show 60000 + 100 * q + 0 ≤ 7293034; omega⟩) hS (fun q _ h => hFc q h) hFc (fun r0 r_149 t H locs ht hvm hw hB hz1 hk1 hS => ?_)
        clear hvm hz1 hk1
        subst hw
        obtain ⟨um_150, hum_150, ⟨tm_150, lm_150, ym_150, gm_150, hMo, hKM, hI, hT⟩⟩ := hB
        rw [ht] at hT
        have hF : ∀ q, tm_150 q ≠ 0 → s.heap.size ≤ q := fun q h => hFc q (hMo.2 q h)
        have hJ := hJ.kp hKM hI.1
        have hW : IW (v 1) (v 2) (v 9) (ym_150 (a 89)) := by rw [hKM.fx hX (j := 89) (by decide) (by decide)]; exact hW
        have hTh : vb 38408 0 4800 (ym_150 (a 99)) := by rw [hKM.fx hX (j := 99) (by decide) (by decide)]; exact hTh
        have hX := hI.1
        have : um_150 8 = u 8 := hum_150 8 (by decide)
        refine lv_pop hx hb dL_law_537 rfl ?_
        refine lv_aload_n hx hb dL_law_538 rfl (lv_at hl 2 rfl) ?_
        refine lv_aload_n hx hb dL_law_539 rfl (lv_at hl 0 rfl) ?_
        refine lv_iload hx hb dL_law_540 (lv_at hl 4 rfl) ?_
        refine lv_iconst (v := 1) hx hb dL_law_542 (by decide) ?_
        refine lv_iadd hx hb dL_law_543 ?_
        refine lv_topi (fun x_151 ex_151 => ?_)
        have hx_151 := z_add ex_151 rfl (zk (x := 1) 1 rfl) (by omega) (by omega)
        refine va_sld hx hb hXs hbl hbA hS (z_in rfl (by omega) (by omega)) dL_law_544 ?_
        refine lq_top (v := s1) (by rw [hs1]; exact congrArg xs (by rw [z_nat (x := x_151) rfl]; omega)) ?_
        have hFc := tw_free hF hS hA
        refine va_calli (va_runV (As := [.int s1]) (rest := []) ⟨hx, hb, hml, hown, hts⟩ (m_step l dC dI ad av H.size a k tm_150 lm_150 ym_150 gm_150 v s1 hJ hW) (cwV 1 hts (gi_4 (im_law _ (List.mem_of_getElem? (i := 47) rfl)) (im_law _ (List.mem_of_getElem? (i := 48) rfl)) (im_law _ (List.mem_of_getElem? (i := 49) rfl)) (im_law _ (List.mem_of_getElem? (i := 7) rfl)) im_m_step gd_m_step) rfl rfl rfl (by decide +kernel) ⟨Nat.le_of_ble_eq_true rfl, Nat.le_of_ble_eq_true rfl⟩) ⟨pw_blind, tw_recv hK hT (fx_50 hX) (by decide) cl_e60 rfl, pw_use hT hK hFc hS hM⟩ rfl rfl hl.1 rfl (lv_room (Nat.le_of_ble_eq_true rfl)) dL_law_545 ⟨by show 200 + 4 * q + 0 + 0 ≤ 601024; omega, by show 60000 + 100 * q + 0 + 0 ≤ 7293034; omega⟩) hS (fun q _ h => hFc q h) hFc (fun r0 r_152 t H locs ht hvm hw hB hz1 hk1 hS => ?_)
        clear hvm hz1 hk1
        subst hw
        rcases hB with ⟨um_153, ym_153, gm_153, hre, hum_153, hgm_153, hggm_153, hJ, hW, hf_154, hf_155, hT⟩ | ⟨um_156, ym_156, gm_156, hum_156, hgm_156, hggm_156, hJ, hW, hf_157, hf_158, hf_159, hT⟩
        · refine lq_top (v := (-1)) hre ?_
          rw [ht] at hT
          have hI := hI.ag hgm_153 (by decide)
          have hI := hI.agg hggm_153
          have hTh : vb 38408 0 4800 (ym_153 (a 99)) := by rw [hgm_153.at (fx_99 hX) (by decide)]; exact hTh
          have : um_153 8 = v 8 := hum_153 8 (by decide)
          have : um_153 3 = v 3 := hum_153 3 (by decide)
          have : um_153 10 = v 10 := hum_153 10 (by decide)
          refine lv_pop hx hb dL_law_548 rfl ?_
          refine lv_goto (tgt := 1360) hx hb dL_law_549 (by decide) ?_
          obtain ⟨x_160, ex_160⟩ : ∃ y : Int32, y = i4 + Int32.ofInt 10 := ⟨_, rfl⟩
          have hx_160 := z_add ex_160 rfl (zk (x := Int32.ofInt 10) 10 rfl) (by omega) (by omega)
          refine lv_iinc (v := x_160) (lv' := [(4, .int x_160), (0, .ref b), (1, .ref (a 0)), (2, .ref (a 50)), (3, .ref (a 49))]) hx hb dL_law_1360 hl (k := 4) rfl ex_160.symm (by decide) rfl (fun ls hl => ?_)
          refine lv_goto (tgt := 23) hx hb dL_law_1363 (by decide) ?_
          refine W.widen (k := 200 + 4 * (q + 1)) (n := 60000 + 100 * (q + 1)) (by omega) (by omega) ?_
          exact ih (q + 1) x_160 tm_150 lm_150 ym_153 gm_153 um_150 um_153 H _ ls (by omega) hF hI hJ hW hTh (by omega) (by omega) (by omega) (by omega) (by omega) hT hS (lv_sub hl [1, 2, 3, 4, 0] rfl)
        · rw [ht] at hT
          have hI := hI.ag hgm_156 (by decide)
          have hI := hI.agg hggm_156
          have hTh : vb 38408 0 4800 (ym_156 (a 99)) := by rw [hgm_156.at (fx_99 hX) (by decide)]; exact hTh
          have : um_156 8 = v 8 := hum_156 8 (by decide)
          have : um_156 3 = v 3 := hum_156 3 (by decide)
          have : um_156 10 = v 10 := hum_156 10 (by decide)
          refine lv_pop hx hb dL_law_548 rfl ?_
          refine lv_goto (tgt := 1360) hx hb dL_law_549 (by decide) ?_
          obtain ⟨x_161, ex_161⟩ : ∃ y : Int32, y = i4 + Int32.ofInt 10 := ⟨_, rfl⟩
          have hx_161 := z_add ex_161 rfl (zk (x := Int32.ofInt 10) 10 rfl) (by omega) (by omega)
          refine lv_iinc (v := x_161) (lv' := [(4, .int x_161), (0, .ref b), (1, .ref (a 0)), (2, .ref (a 50)), (3, .ref (a 49))]) hx hb dL_law_1360 hl (k := 4) rfl ex_161.symm (by decide) rfl (fun ls hl => ?_)
          refine lv_goto (tgt := 23) hx hb dL_law_1363 (by decide) ?_
          refine W.widen (k := 200 + 4 * (q + 1)) (n := 60000 + 100 * (q + 1)) (by omega) (by omega) ?_
          exact ih (q + 1) x_161 tm_150 lm_150 ym_156 gm_156 um_150 um_156 H _ ls (by omega) hF hI hJ hW hTh (by omega) (by omega) (by omega) (by omega) (by omega) hT hS (lv_sub hl [1, 2, 3, 4, 0] rfl)
      · refine lq_top (v := 8) t_5 ?_
        have nt_5 := z_eq rfl (zk (x := 8) 8 rfl) t_5
        refine lv_tableIn (tgt := 552) hx hb dL_law_40 (by decide) (by decide) (off := 512) (by decide) (by decide) ?_
        refine lv_aload_n hx hb dL_law_552 rfl (lv_at hl 1 rfl) ?_
        refine lv_aload_n hx hb dL_law_553 rfl (lv_at hl 0 rfl) ?_
        refine lv_iload hx hb dL_law_554 (lv_at hl 4 rfl) ?_
        refine lv_iconst (v := 1) hx hb dL_law_556 (by decide) ?_
        refine lv_iadd hx hb dL_law_557 ?_
        refine lv_topi (fun x_162 ex_162 => ?_)
        have hx_162 := z_add ex_162 rfl (zk (x := 1) 1 rfl) (by omega) (by omega)
        refine va_sld hx hb hXs hbl hbA hS (z_in rfl (by omega) (by omega)) dL_law_558 ?_
        refine lq_top (v := s1) (by rw [hs1]; exact congrArg xs (by rw [z_nat (x := x_162) rfl]; omega)) ?_
        refine lv_aload_n hx hb dL_law_559 rfl (lv_at hl 0 rfl) ?_
        refine lv_iload hx hb dL_law_560 (lv_at hl 4 rfl) ?_
        refine lv_iconst (v := 2) hx hb dL_law_562 (by decide) ?_
        refine lv_iadd hx hb dL_law_563 ?_
        refine lv_topi (fun x_163 ex_163 => ?_)
        have hx_163 := z_add ex_163 rfl (zk (x := 2) 2 rfl) (by omega) (by omega)
        refine va_sld hx hb hXs hbl hbA hS (z_in rfl (by omega) (by omega)) dL_law_564 ?_
        refine lq_top (v := s2) (by rw [hs2]; exact congrArg xs (by rw [z_nat (x := x_163) rfl]; omega)) ?_
        refine lv_aload_n hx hb dL_law_565 rfl (lv_at hl 3 rfl) ?_
        have hFc := tw_free hF hS hA
        refine va_calli (vx_runSW (As := [.ref (a 0), .int s1, .int s2, .ref (a 49)]) (rest := []) ⟨hx, hb, hml, hown, hts⟩ (k_of l hst dC dI ad av H.size a k τ ln y g u s1 s2 hI ) (vx_cwSW 4 hts (gi_3 (im_law _ (List.mem_of_getElem? (i := 50) rfl)) (im_law _ (List.mem_of_getElem? (i := 51) rfl)) (im_law _ (List.mem_of_getElem? (i := 52) rfl)) im_k_of gd_k_of) rfl rfl rfl (by decide +kernel) ⟨Nat.le_of_ble_eq_true rfl, Nat.le_of_ble_eq_true rfl⟩) ⟨pw_blind, pw_use hT hK hFc hS hM⟩ rfl rfl hl.1 rfl (lv_room (Nat.le_of_ble_eq_true rfl)) dL_law_566 ⟨by show 200 + 4 * q + 1 ≤ 601024; omega, by show 60000 + 100 * q + 6 ≤ 7293034; omega⟩) hS (fun q _ h => hFc q h) hFc (fun r0 r_164 t H locs ht hvm hw hB hz1 hk1 hS => ?_)
        clear hvm hz1 hk1
        subst hw
        obtain ⟨um_165, hum_165, ⟨tm_165, lm_165, ym_165, gm_165, hMo, hKM, hI, hT⟩⟩ := hB
        rw [ht] at hT
        have hF : ∀ q, tm_165 q ≠ 0 → s.heap.size ≤ q := fun q h => hFc q (hMo.2 q h)
        have hJ := hJ.kp hKM hI.1
        have hW : IW (v 1) (v 2) (v 9) (ym_165 (a 89)) := by rw [hKM.fx hX (j := 89) (by decide) (by decide)]; exact hW
        have hTh : vb 38408 0 4800 (ym_165 (a 99)) := by rw [hKM.fx hX (j := 99) (by decide) (by decide)]; exact hTh
        have hX := hI.1
        have : um_165 8 = u 8 := hum_165 8 (by decide)
        refine lv_istore (lv' := [(5, .int r_164), (0, .ref b), (1, .ref (a 0)), (2, .ref (a 50)), (3, .ref (a 49)), (4, .int i4)]) hx hb dL_law_569 hl (by decide) rfl (fun ls hl => ?_)
        refine lv_aload_n hx hb dL_law_571 rfl (lv_at hl 3 rfl) ?_
        refine lv_aload_n hx hb dL_law_572 rfl (lv_at hl 1 rfl) ?_
        refine lv_iload hx hb dL_law_573 (lv_at hl 5 rfl) ?_
        refine lv_iconst (v := 1) hx hb dL_law_575 (by decide) ?_
        refine lv_iadd hx hb dL_law_576 ?_
        refine lv_topi (fun x_166 ex_166 => ?_)
        have hx_166 := z_add ex_166 rfl (zk (x := 1) 1 rfl) (by omega) (by omega)
        refine va_sld hx hb hXs hbl hbA hS (z_in rfl (by omega) (by omega)) dL_law_577 ?_
        refine lq_top (v := s1) (by rw [hs1]; exact congrArg xs (by rw [z_nat (x := x_166) rfl]; omega)) ?_
        refine lv_aload_n hx hb dL_law_578 rfl (lv_at hl 1 rfl) ?_
        refine lv_iload hx hb dL_law_579 (lv_at hl 5 rfl) ?_
        refine lv_iconst (v := 2) hx hb dL_law_581 (by decide) ?_
        refine lv_iadd hx hb dL_law_582 ?_
        refine lv_topi (fun x_167 ex_167 => ?_)
        have hx_167 := z_add ex_167 rfl (zk (x := 2) 2 rfl) (by omega) (by omega)
        refine va_sld hx hb hXs hbl hbA hS (z_in rfl (by omega) (by omega)) dL_law_583 ?_
        refine lq_top (v := s2) (by rw [hs2]; exact congrArg xs (by rw [z_nat (x := x_167) rfl]; omega)) ?_
        have hFc := tw_free hF hS hA
        refine va_calli (va_runV (As := [.int s1, .int s2]) (rest := []) ⟨hx, hb, hml, hown, hts⟩ (m_of l dC dI ad av H.size a k tm_165 lm_165 ym_165 gm_165 v s1 s2 hJ hW) (cwV 2 hts (gi_4 (im_law _ (List.mem_of_getElem? (i := 53) rfl)) (im_law _ (List.mem_of_getElem? (i := 54) rfl)) (im_law _ (List.mem_of_getElem? (i := 55) rfl)) (im_law _ (List.mem_of_getElem? (i := 7) rfl)) im_m_of gd_m_of) rfl rfl rfl (by decide +kernel) ⟨Nat.le_of_ble_eq_true rfl, Nat.le_of_ble_eq_true rfl⟩) ⟨pw_blind, tw_recv hK hT (fx_50 hX) (by decide) cl_e60 rfl, pw_use hT hK hFc hS hM⟩ rfl rfl hl.1 rfl (lv_room (Nat.le_of_ble_eq_true rfl)) dL_law_584 ⟨by show 200 + 4 * q + 1 + 0 ≤ 601024; omega, by show 60000 + 100 * q + 6 + 0 ≤ 7293034; omega⟩) hS (fun q _ h => hFc q h) hFc (fun r0 r_168 t H locs ht hvm hw hB hz1 hk1 hS => ?_)
        clear hvm hz1 hk1
        subst hw
        obtain ⟨ym_169, gm_169, hgm_169, hggm_169, hJ, hT⟩ := hB
        rw [ht] at hT
        have hI := hI.ag hgm_169 (by decide)
        have hI := hI.agg hggm_169
        have hW : IW (v 1) (v 2) (v 9) (ym_169 (a 89)) := by rw [hgm_169.at (fx_89 hX) (by decide)]; exact hW
        have hTh : vb 38408 0 4800 (ym_169 (a 99)) := by rw [hgm_169.at (fx_99 hX) (by decide)]; exact hTh
        refine lv_istore (lv' := [(6, .int r_168), (5, .int r_164), (0, .ref b), (1, .ref (a 0)), (2, .ref (a 50)), (3, .ref (a 49)), (4, .int i4)]) hx hb dL_law_587 hl (by decide) rfl (fun ls hl => ?_)
        refine lv_goto (tgt := 1360) hx hb dL_law_589 (by decide) ?_
        obtain ⟨x_170, ex_170⟩ : ∃ y : Int32, y = i4 + Int32.ofInt 10 := ⟨_, rfl⟩
        have hx_170 := z_add ex_170 rfl (zk (x := Int32.ofInt 10) 10 rfl) (by omega) (by omega)
        refine lv_iinc (v := x_170) (lv' := [(4, .int x_170), (6, .int r_168), (5, .int r_164), (0, .ref b), (1, .ref (a 0)), (2, .ref (a 50)), (3, .ref (a 49))]) hx hb dL_law_1360 hl (k := 6) rfl ex_170.symm (by decide) rfl (fun ls hl => ?_)
        refine lv_goto (tgt := 23) hx hb dL_law_1363 (by decide) ?_
        refine W.widen (k := 200 + 4 * (q + 1)) (n := 60000 + 100 * (q + 1)) (by omega) (by omega) ?_
        exact ih (q + 1) x_170 tm_165 lm_165 ym_169 gm_169 um_165 v H _ ls (by omega) hF hI hJ hW hTh (by omega) (by omega) (by omega) (by omega) (by omega) hT hS (lv_sub hl [3, 4, 5, 6, 0] rfl)
      · refine lq_top (v := 9) t_5 ?_
        have nt_5 := z_eq rfl (zk (x := 9) 9 rfl) t_5
        refine lv_tableIn (tgt := 592) hx hb dL_law_40 (by decide) (by decide) (off := 552) (by decide) (by decide) ?_
        refine lv_aload_n hx hb dL_law_592 rfl (lv_at hl 1 rfl) ?_
        refine lv_aload_n hx hb dL_law_593 rfl (lv_at hl 0 rfl) ?_
        refine lv_iload hx hb dL_law_594 (lv_at hl 4 rfl) ?_
        refine lv_iconst (v := 1) hx hb dL_law_596 (by decide) ?_
        refine lv_iadd hx hb dL_law_597 ?_
        refine lv_topi (fun x_171 ex_171 => ?_)
        have hx_171 := z_add ex_171 rfl (zk (x := 1) 1 rfl) (by omega) (by omega)
        refine va_sld hx hb hXs hbl hbA hS (z_in rfl (by omega) (by omega)) dL_law_598 ?_
        refine lq_top (v := s1) (by rw [hs1]; exact congrArg xs (by rw [z_nat (x := x_171) rfl]; omega)) ?_
        refine lv_aload_n hx hb dL_law_599 rfl (lv_at hl 0 rfl) ?_
        refine lv_iload hx hb dL_law_600 (lv_at hl 4 rfl) ?_
        refine lv_iconst (v := 2) hx hb dL_law_602 (by decide) ?_
        refine lv_iadd hx hb dL_law_603 ?_
        refine lv_topi (fun x_172 ex_172 => ?_)
        have hx_172 := z_add ex_172 rfl (zk (x := 2) 2 rfl) (by omega) (by omega)
        refine va_sld hx hb hXs hbl hbA hS (z_in rfl (by omega) (by omega)) dL_law_604 ?_
        refine lq_top (v := s2) (by rw [hs2]; exact congrArg xs (by rw [z_nat (x := x_172) rfl]; omega)) ?_
        have hFc := tw_free hF hS hA
        refine va_calli (va_runV (As := [.int s1, .int s2]) (rest := []) ⟨hx, hb, hml, hown, hts⟩ (c_at l dC dI ad av H.size a k τ ln y g u s1 s2 hI ) (cwV 2 hts (gi_4 (im_law _ (List.mem_of_getElem? (i := 56) rfl)) (im_law _ (List.mem_of_getElem? (i := 57) rfl)) (im_law _ (List.mem_of_getElem? (i := 58) rfl)) (im_law _ (List.mem_of_getElem? (i := 3) rfl)) im_c_at gd_c_at) rfl rfl rfl (by decide +kernel) ⟨Nat.le_of_ble_eq_true rfl, Nat.le_of_ble_eq_true rfl⟩) ⟨pw_blind, tw_recv hK hT (fx_0 hX) (by decide) cl_e10 rfl, pw_use hT hK hFc hS hM⟩ rfl rfl hl.1 rfl (lv_room (Nat.le_of_ble_eq_true rfl)) dL_law_605 ⟨by show 200 + 4 * q + 0 ≤ 601024; omega, by show 60000 + 100 * q + 0 ≤ 7293034; omega⟩) hS (fun q _ h => hFc q h) hFc (fun r0 r_173 t H locs ht hvm hw hB hz1 hk1 hS => ?_)
        clear hvm hz1 hk1
        subst hw
        obtain ⟨um_174, hum_174, ⟨tm_174, lm_174, ym_174, gm_174, hMo, hKM, hI, hT⟩⟩ := hB
        rw [ht] at hT
        have hF : ∀ q, tm_174 q ≠ 0 → s.heap.size ≤ q := fun q h => hFc q (hMo.2 q h)
        have hJ := hJ.kp hKM hI.1
        have hW : IW (v 1) (v 2) (v 9) (ym_174 (a 89)) := by rw [hKM.fx hX (j := 89) (by decide) (by decide)]; exact hW
        have hTh : vb 38408 0 4800 (ym_174 (a 99)) := by rw [hKM.fx hX (j := 99) (by decide) (by decide)]; exact hTh
        have hX := hI.1
        have : um_174 8 = u 8 := hum_174 8 (by decide)
        refine lv_pop hx hb dL_law_608 rfl ?_
        refine lv_aload_n hx hb dL_law_609 rfl (lv_at hl 2 rfl) ?_
        refine lv_aload_n hx hb dL_law_610 rfl (lv_at hl 0 rfl) ?_
        refine lv_iload hx hb dL_law_611 (lv_at hl 4 rfl) ?_
        refine lv_iconst (v := 1) hx hb dL_law_613 (by decide) ?_
        refine lv_iadd hx hb dL_law_614 ?_
        refine lv_topi (fun x_175 ex_175 => ?_)
        have hx_175 := z_add ex_175 rfl (zk (x := 1) 1 rfl) (by omega) (by omega)
        refine va_sld hx hb hXs hbl hbA hS (z_in rfl (by omega) (by omega)) dL_law_615 ?_
        refine lq_top (v := s1) (by rw [hs1]; exact congrArg xs (by rw [z_nat (x := x_175) rfl]; omega)) ?_
        refine lv_aload_n hx hb dL_law_616 rfl (lv_at hl 0 rfl) ?_
        refine lv_iload hx hb dL_law_617 (lv_at hl 4 rfl) ?_
        refine lv_iconst (v := 2) hx hb dL_law_619 (by decide) ?_
        refine lv_iadd hx hb dL_law_620 ?_
        refine lv_topi (fun x_176 ex_176 => ?_)
        have hx_176 := z_add ex_176 rfl (zk (x := 2) 2 rfl) (by omega) (by omega)
        refine va_sld hx hb hXs hbl hbA hS (z_in rfl (by omega) (by omega)) dL_law_621 ?_
        refine lq_top (v := s2) (by rw [hs2]; exact congrArg xs (by rw [z_nat (x := x_176) rfl]; omega)) ?_
        have hFc := tw_free hF hS hA
        refine va_calli (va_runV (As := [.int s1, .int s2]) (rest := []) ⟨hx, hb, hml, hown, hts⟩ (m_at l dC dI ad av H.size a k tm_174 lm_174 ym_174 gm_174 v s1 s2 hJ hW) (cwV 2 hts (gi_4 (im_law _ (List.mem_of_getElem? (i := 59) rfl)) (im_law _ (List.mem_of_getElem? (i := 60) rfl)) (im_law _ (List.mem_of_getElem? (i := 61) rfl)) (im_law _ (List.mem_of_getElem? (i := 7) rfl)) im_m_at gd_m_at) rfl rfl rfl (by decide +kernel) ⟨Nat.le_of_ble_eq_true rfl, Nat.le_of_ble_eq_true rfl⟩) ⟨pw_blind, tw_recv hK hT (fx_50 hX) (by decide) cl_e60 rfl, pw_use hT hK hFc hS hM⟩ rfl rfl hl.1 rfl (lv_room (Nat.le_of_ble_eq_true rfl)) dL_law_622 ⟨by show 200 + 4 * q + 0 + 0 ≤ 601024; omega, by show 60000 + 100 * q + 0 + 0 ≤ 7293034; omega⟩) hS (fun q _ h => hFc q h) hFc (fun r0 r_177 t H locs ht hvm hw hB hz1 hk1 hS => ?_)
        clear hvm hz1 hk1
        subst hw
        obtain ⟨ym_178, gm_178, hgm_178, hggm_178, hJ, hT⟩ := hB
        rw [ht] at hT
        have hI := hI.ag hgm_178 (by decide)
        have hI := hI.agg hggm_178
        have hW : IW (v 1) (v 2) (v 9) (ym_178 (a 89)) := by rw [hgm_178.at (fx_89 hX) (by decide)]; exact hW
        have hTh : vb 38408 0 4800 (ym_178 (a 99)) := by rw [hgm_178.at (fx_99 hX) (by decide)]; exact hTh
        refine lv_pop hx hb dL_law_625 rfl ?_
        refine lv_goto (tgt := 1360) hx hb dL_law_626 (by decide) ?_
        obtain ⟨x_179, ex_179⟩ : ∃ y : Int32, y = i4 + Int32.ofInt 10 := ⟨_, rfl⟩
        have hx_179 := z_add ex_179 rfl (zk (x := Int32.ofInt 10) 10 rfl) (by omega) (by omega)
        refine lv_iinc (v := x_179) (lv' := [(4, .int x_179), (0, .ref b), (1, .ref (a 0)), (2, .ref (a 50)), (3, .ref (a 49))]) hx hb dL_law_1360 hl (k := 4) rfl ex_179.symm (by decide) rfl (fun ls hl => ?_)
        refine lv_goto (tgt := 23) hx hb dL_law_1363 (by decide) ?_
        refine W.widen (k := 200 + 4 * (q + 1)) (n := 60000 + 100 * (q + 1)) (by omega) (by omega) ?_
        exact ih (q + 1) x_179 tm_174 lm_174 ym_178 gm_178 um_174 v H _ ls (by omega) hF hI hJ hW hTh (by omega) (by omega) (by omega) (by omega) (by omega) hT hS (lv_sub hl [1, 2, 3, 4, 0] rfl)
      · refine lq_top (v := 10) t_5 ?_
        have nt_5 := z_eq rfl (zk (x := 10) 10 rfl) t_5
        refine lv_tableIn (tgt := 629) hx hb dL_law_40 (by decide) (by decide) (off := 589) (by decide) (by decide) ?_
        refine lv_aload_n hx hb dL_law_629 rfl (lv_at hl 1 rfl) ?_
        refine lv_aload_n hx hb dL_law_630 rfl (lv_at hl 0 rfl) ?_
        refine lv_iload hx hb dL_law_631 (lv_at hl 4 rfl) ?_
        refine lv_iconst (v := 1) hx hb dL_law_633 (by decide) ?_
        refine lv_iadd hx hb dL_law_634 ?_
        refine lv_topi (fun x_180 ex_180 => ?_)
        have hx_180 := z_add ex_180 rfl (zk (x := 1) 1 rfl) (by omega) (by omega)
        refine va_sld hx hb hXs hbl hbA hS (z_in rfl (by omega) (by omega)) dL_law_635 ?_
        refine lq_top (v := s1) (by rw [hs1]; exact congrArg xs (by rw [z_nat (x := x_180) rfl]; omega)) ?_
        refine lv_aload_n hx hb dL_law_636 rfl (lv_at hl 0 rfl) ?_
        refine lv_iload hx hb dL_law_637 (lv_at hl 4 rfl) ?_
        refine lv_iconst (v := 2) hx hb dL_law_639 (by decide) ?_
        refine lv_iadd hx hb dL_law_640 ?_
        refine lv_topi (fun x_181 ex_181 => ?_)
        have hx_181 := z_add ex_181 rfl (zk (x := 2) 2 rfl) (by omega) (by omega)
        refine va_sld hx hb hXs hbl hbA hS (z_in rfl (by omega) (by omega)) dL_law_641 ?_
        refine lq_top (v := s2) (by rw [hs2]; exact congrArg xs (by rw [z_nat (x := x_181) rfl]; omega)) ?_
        have hFc := tw_free hF hS hA
        refine va_calli (va_runV (As := [.int s1, .int s2]) (rest := []) ⟨hx, hb, hml, hown, hts⟩ (c_may l dC dI ad av H.size a k τ ln y g u s1 s2 hI ) (cwV 2 hts (gi_4 (im_law _ (List.mem_of_getElem? (i := 62) rfl)) (im_law _ (List.mem_of_getElem? (i := 63) rfl)) (im_law _ (List.mem_of_getElem? (i := 64) rfl)) (im_law _ (List.mem_of_getElem? (i := 3) rfl)) im_c_may gd_c_may) rfl rfl rfl (by decide +kernel) ⟨Nat.le_of_ble_eq_true rfl, Nat.le_of_ble_eq_true rfl⟩) ⟨pw_blind, tw_recv hK hT (fx_0 hX) (by decide) cl_e10 rfl, pw_use hT hK hFc hS hM⟩ rfl rfl hl.1 rfl (lv_room (Nat.le_of_ble_eq_true rfl)) dL_law_642 ⟨by show 200 + 4 * q + 0 ≤ 601024; omega, by show 60000 + 100 * q + 0 ≤ 7293034; omega⟩) hS (fun q _ h => hFc q h) hFc (fun r0 r_182 t H locs ht hvm hw hB hz1 hk1 hS => ?_)
        clear hvm hz1 hk1
        subst hw
        obtain ⟨um_183, hum_183, ⟨tm_183, lm_183, ym_183, gm_183, hMo, hKM, hI, hT⟩⟩ := hB
        rw [ht] at hT
        have hF : ∀ q, tm_183 q ≠ 0 → s.heap.size ≤ q := fun q h => hFc q (hMo.2 q h)
        have hJ := hJ.kp hKM hI.1
        have hW : IW (v 1) (v 2) (v 9) (ym_183 (a 89)) := by rw [hKM.fx hX (j := 89) (by decide) (by decide)]; exact hW
        have hTh : vb 38408 0 4800 (ym_183 (a 99)) := by rw [hKM.fx hX (j := 99) (by decide) (by decide)]; exact hTh
        have hX := hI.1
        have : um_183 8 = u 8 := hum_183 8 (by decide)
        refine lv_pop hx hb dL_law_645 rfl ?_
        refine lv_aload_n hx hb dL_law_646 rfl (lv_at hl 2 rfl) ?_
        refine lv_aload_n hx hb dL_law_647 rfl (lv_at hl 0 rfl) ?_
        refine lv_iload hx hb dL_law_648 (lv_at hl 4 rfl) ?_
        refine lv_iconst (v := 1) hx hb dL_law_650 (by decide) ?_
        refine lv_iadd hx hb dL_law_651 ?_
        refine lv_topi (fun x_184 ex_184 => ?_)
        have hx_184 := z_add ex_184 rfl (zk (x := 1) 1 rfl) (by omega) (by omega)
        refine va_sld hx hb hXs hbl hbA hS (z_in rfl (by omega) (by omega)) dL_law_652 ?_
        refine lq_top (v := s1) (by rw [hs1]; exact congrArg xs (by rw [z_nat (x := x_184) rfl]; omega)) ?_
        refine lv_aload_n hx hb dL_law_653 rfl (lv_at hl 0 rfl) ?_
        refine lv_iload hx hb dL_law_654 (lv_at hl 4 rfl) ?_
        refine lv_iconst (v := 2) hx hb dL_law_656 (by decide) ?_
        refine lv_iadd hx hb dL_law_657 ?_
        refine lv_topi (fun x_185 ex_185 => ?_)
        have hx_185 := z_add ex_185 rfl (zk (x := 2) 2 rfl) (by omega) (by omega)
        refine va_sld hx hb hXs hbl hbA hS (z_in rfl (by omega) (by omega)) dL_law_658 ?_
        refine lq_top (v := s2) (by rw [hs2]; exact congrArg xs (by rw [z_nat (x := x_185) rfl]; omega)) ?_
        have hFc := tw_free hF hS hA
        refine va_calli (va_runV (As := [.int s1, .int s2]) (rest := []) ⟨hx, hb, hml, hown, hts⟩ (m_may l dC dI ad av H.size a k tm_183 lm_183 ym_183 gm_183 v s1 s2 hJ hW) (cwV 2 hts (gi_4 (im_law _ (List.mem_of_getElem? (i := 65) rfl)) (im_law _ (List.mem_of_getElem? (i := 66) rfl)) (im_law _ (List.mem_of_getElem? (i := 67) rfl)) (im_law _ (List.mem_of_getElem? (i := 7) rfl)) im_m_may gd_m_may) rfl rfl rfl (by decide +kernel) ⟨Nat.le_of_ble_eq_true rfl, Nat.le_of_ble_eq_true rfl⟩) ⟨pw_blind, tw_recv hK hT (fx_50 hX) (by decide) cl_e60 rfl, pw_use hT hK hFc hS hM⟩ rfl rfl hl.1 rfl (lv_room (Nat.le_of_ble_eq_true rfl)) dL_law_659 ⟨by show 200 + 4 * q + 0 + 0 ≤ 601024; omega, by show 60000 + 100 * q + 0 + 0 ≤ 7293034; omega⟩) hS (fun q _ h => hFc q h) hFc (fun r0 r_186 t H locs ht hvm hw hB hz1 hk1 hS => ?_)
        clear hvm hz1 hk1
        subst hw
        obtain ⟨ym_187, gm_187, hgm_187, hggm_187, hJ, hT⟩ := hB
        rw [ht] at hT
        have hI := hI.ag hgm_187 (by decide)
        have hI := hI.agg hggm_187
        have hW : IW (v 1) (v 2) (v 9) (ym_187 (a 89)) := by rw [hgm_187.at (fx_89 hX) (by decide)]; exact hW
        have hTh : vb 38408 0 4800 (ym_187 (a 99)) := by rw [hgm_187.at (fx_99 hX) (by decide)]; exact hTh
        refine lv_pop hx hb dL_law_662 rfl ?_
        refine lv_goto (tgt := 1360) hx hb dL_law_663 (by decide) ?_
        obtain ⟨x_188, ex_188⟩ : ∃ y : Int32, y = i4 + Int32.ofInt 10 := ⟨_, rfl⟩
        have hx_188 := z_add ex_188 rfl (zk (x := Int32.ofInt 10) 10 rfl) (by omega) (by omega)
        refine lv_iinc (v := x_188) (lv' := [(4, .int x_188), (0, .ref b), (1, .ref (a 0)), (2, .ref (a 50)), (3, .ref (a 49))]) hx hb dL_law_1360 hl (k := 4) rfl ex_188.symm (by decide) rfl (fun ls hl => ?_)
        refine lv_goto (tgt := 23) hx hb dL_law_1363 (by decide) ?_
        refine W.widen (k := 200 + 4 * (q + 1)) (n := 60000 + 100 * (q + 1)) (by omega) (by omega) ?_
        exact ih (q + 1) x_188 tm_183 lm_183 ym_187 gm_187 um_183 v H _ ls (by omega) hF hI hJ hW hTh (by omega) (by omega) (by omega) (by omega) (by omega) hT hS (lv_sub hl [1, 2, 3, 4, 0] rfl)
      · refine lq_top (v := 11) t_5 ?_
        have nt_5 := z_eq rfl (zk (x := 11) 11 rfl) t_5
        refine lv_tableIn (tgt := 666) hx hb dL_law_40 (by decide) (by decide) (off := 626) (by decide) (by decide) ?_
        refine lv_aload_n hx hb dL_law_666 rfl (lv_at hl 1 rfl) ?_
        refine lv_aload_n hx hb dL_law_667 rfl (lv_at hl 0 rfl) ?_
        refine lv_iload hx hb dL_law_668 (lv_at hl 4 rfl) ?_
        refine lv_iconst (v := 1) hx hb dL_law_670 (by decide) ?_
        refine lv_iadd hx hb dL_law_671 ?_
        refine lv_topi (fun x_189 ex_189 => ?_)
        have hx_189 := z_add ex_189 rfl (zk (x := 1) 1 rfl) (by omega) (by omega)
        refine va_sld hx hb hXs hbl hbA hS (z_in rfl (by omega) (by omega)) dL_law_672 ?_
        refine lq_top (v := s1) (by rw [hs1]; exact congrArg xs (by rw [z_nat (x := x_189) rfl]; omega)) ?_
        refine lv_aload_n hx hb dL_law_673 rfl (lv_at hl 0 rfl) ?_
        refine lv_iload hx hb dL_law_674 (lv_at hl 4 rfl) ?_
        refine lv_iconst (v := 2) hx hb dL_law_676 (by decide) ?_
        refine lv_iadd hx hb dL_law_677 ?_
        refine lv_topi (fun x_190 ex_190 => ?_)
        have hx_190 := z_add ex_190 rfl (zk (x := 2) 2 rfl) (by omega) (by omega)
        refine va_sld hx hb hXs hbl hbA hS (z_in rfl (by omega) (by omega)) dL_law_678 ?_
        refine lq_top (v := s2) (by rw [hs2]; exact congrArg xs (by rw [z_nat (x := x_190) rfl]; omega)) ?_
        refine lv_aload_n hx hb dL_law_679 rfl (lv_at hl 3 rfl) ?_
        have hFc := tw_free hF hS hA
        refine va_calli (vx_runSW (As := [.ref (a 0), .int s1, .int s2, .ref (a 49)]) (rest := []) ⟨hx, hb, hml, hown, hts⟩ (k_order l hst dC dI ad av H.size a k τ ln y g u s1 s2 hI ) (vx_cwSW 4 hts (gi_3 (im_law _ (List.mem_of_getElem? (i := 68) rfl)) (im_law _ (List.mem_of_getElem? (i := 69) rfl)) (im_law _ (List.mem_of_getElem? (i := 52) rfl)) im_k_order gd_k_order) rfl rfl rfl (by decide +kernel) ⟨Nat.le_of_ble_eq_true rfl, Nat.le_of_ble_eq_true rfl⟩) ⟨pw_blind, pw_use hT hK hFc hS hM⟩ rfl rfl hl.1 rfl (lv_room (Nat.le_of_ble_eq_true rfl)) dL_law_680 ⟨by show 200 + 4 * q + 1 ≤ 601024; omega, by show 60000 + 100 * q + 6 ≤ 7293034; omega⟩) hS (fun q _ h => hFc q h) hFc (fun r0 r_191 t H locs ht hvm hw hB hz1 hk1 hS => ?_)
        clear hvm hz1 hk1
        subst hw
        obtain ⟨um_192, hum_192, ⟨tm_192, lm_192, ym_192, gm_192, hMo, hKM, hI, hT⟩⟩ := hB
        rw [ht] at hT
        have hF : ∀ q, tm_192 q ≠ 0 → s.heap.size ≤ q := fun q h => hFc q (hMo.2 q h)
        have hJ := hJ.kp hKM hI.1
        have hW : IW (v 1) (v 2) (v 9) (ym_192 (a 89)) := by rw [hKM.fx hX (j := 89) (by decide) (by decide)]; exact hW
        have hTh : vb 38408 0 4800 (ym_192 (a 99)) := by rw [hKM.fx hX (j := 99) (by decide) (by decide)]; exact hTh
        have hX := hI.1
        have : um_192 8 = u 8 := hum_192 8 (by decide)
        refine lv_istore (lv' := [(5, .int r_191), (0, .ref b), (1, .ref (a 0)), (2, .ref (a 50)), (3, .ref (a 49)), (4, .int i4)]) hx hb dL_law_683 hl (by decide) rfl (fun ls hl => ?_)
        refine lv_aload_n hx hb dL_law_685 rfl (lv_at hl 3 rfl) ?_
        refine lv_aload_n hx hb dL_law_686 rfl (lv_at hl 1 rfl) ?_
        refine lv_iload hx hb dL_law_687 (lv_at hl 5 rfl) ?_
        refine lv_iconst (v := 1) hx hb dL_law_689 (by decide) ?_
        refine lv_iadd hx hb dL_law_690 ?_
        refine lv_topi (fun x_193 ex_193 => ?_)
        have hx_193 := z_add ex_193 rfl (zk (x := 1) 1 rfl) (by omega) (by omega)
        refine va_sld hx hb hXs hbl hbA hS (z_in rfl (by omega) (by omega)) dL_law_691 ?_
        refine lq_top (v := s1) (by rw [hs1]; exact congrArg xs (by rw [z_nat (x := x_193) rfl]; omega)) ?_
        refine lv_aload_n hx hb dL_law_692 rfl (lv_at hl 1 rfl) ?_
        refine lv_iload hx hb dL_law_693 (lv_at hl 5 rfl) ?_
        refine lv_iconst (v := 2) hx hb dL_law_695 (by decide) ?_
        refine lv_iadd hx hb dL_law_696 ?_
        refine lv_topi (fun x_194 ex_194 => ?_)
        have hx_194 := z_add ex_194 rfl (zk (x := 2) 2 rfl) (by omega) (by omega)
        refine va_sld hx hb hXs hbl hbA hS (z_in rfl (by omega) (by omega)) dL_law_697 ?_
        refine lq_top (v := s2) (by rw [hs2]; exact congrArg xs (by rw [z_nat (x := x_194) rfl]; omega)) ?_
        have hFc := tw_free hF hS hA
        refine va_calli (va_runV (As := [.int s1, .int s2]) (rest := []) ⟨hx, hb, hml, hown, hts⟩ (m_order l dC dI ad av H.size a k tm_192 lm_192 ym_192 gm_192 v s1 s2 hJ hW) (cwV 2 hts (gi_4 (im_law _ (List.mem_of_getElem? (i := 70) rfl)) (im_law _ (List.mem_of_getElem? (i := 71) rfl)) (im_law _ (List.mem_of_getElem? (i := 72) rfl)) (im_law _ (List.mem_of_getElem? (i := 7) rfl)) im_m_order gd_m_order) rfl rfl rfl (by decide +kernel) ⟨Nat.le_of_ble_eq_true rfl, Nat.le_of_ble_eq_true rfl⟩) ⟨pw_blind, tw_recv hK hT (fx_50 hX) (by decide) cl_e60 rfl, pw_use hT hK hFc hS hM⟩ rfl rfl hl.1 rfl (lv_room (Nat.le_of_ble_eq_true rfl)) dL_law_698 ⟨by show 200 + 4 * q + 1 + 0 ≤ 601024; omega, by show 60000 + 100 * q + 6 + 0 ≤ 7293034; omega⟩) hS (fun q _ h => hFc q h) hFc (fun r0 r_195 t H locs ht hvm hw hB hz1 hk1 hS => ?_)
        clear hvm hz1 hk1
        subst hw
        obtain ⟨ym_196, gm_196, hgm_196, hggm_196, hJ, hT⟩ := hB
        rw [ht] at hT
        have hI := hI.ag hgm_196 (by decide)
        have hI := hI.agg hggm_196
        have hW : IW (v 1) (v 2) (v 9) (ym_196 (a 89)) := by rw [hgm_196.at (fx_89 hX) (by decide)]; exact hW
        have hTh : vb 38408 0 4800 (ym_196 (a 99)) := by rw [hgm_196.at (fx_99 hX) (by decide)]; exact hTh
        refine lv_istore (lv' := [(6, .int r_195), (5, .int r_191), (0, .ref b), (1, .ref (a 0)), (2, .ref (a 50)), (3, .ref (a 49)), (4, .int i4)]) hx hb dL_law_701 hl (by decide) rfl (fun ls hl => ?_)
        refine lv_goto (tgt := 1360) hx hb dL_law_703 (by decide) ?_
        obtain ⟨x_197, ex_197⟩ : ∃ y : Int32, y = i4 + Int32.ofInt 10 := ⟨_, rfl⟩
        have hx_197 := z_add ex_197 rfl (zk (x := Int32.ofInt 10) 10 rfl) (by omega) (by omega)
        refine lv_iinc (v := x_197) (lv' := [(4, .int x_197), (6, .int r_195), (5, .int r_191), (0, .ref b), (1, .ref (a 0)), (2, .ref (a 50)), (3, .ref (a 49))]) hx hb dL_law_1360 hl (k := 6) rfl ex_197.symm (by decide) rfl (fun ls hl => ?_)
        refine lv_goto (tgt := 23) hx hb dL_law_1363 (by decide) ?_
        refine W.widen (k := 200 + 4 * (q + 1)) (n := 60000 + 100 * (q + 1)) (by omega) (by omega) ?_
        exact ih (q + 1) x_197 tm_192 lm_192 ym_196 gm_196 um_192 v H _ ls (by omega) hF hI hJ hW hTh (by omega) (by omega) (by omega) (by omega) (by omega) hT hS (lv_sub hl [3, 4, 5, 6, 0] rfl)
      · refine lq_top (v := 12) t_5 ?_
        have nt_5 := z_eq rfl (zk (x := 12) 12 rfl) t_5
        refine lv_tableIn (tgt := 706) hx hb dL_law_40 (by decide) (by decide) (off := 666) (by decide) (by decide) ?_
        refine lv_aload_n hx hb dL_law_706 rfl (lv_at hl 1 rfl) ?_
        refine lv_aload_n hx hb dL_law_707 rfl (lv_at hl 0 rfl) ?_
        refine lv_iload hx hb dL_law_708 (lv_at hl 4 rfl) ?_
        refine lv_iconst (v := 1) hx hb dL_law_710 (by decide) ?_
        refine lv_iadd hx hb dL_law_711 ?_
        refine lv_topi (fun x_198 ex_198 => ?_)
        have hx_198 := z_add ex_198 rfl (zk (x := 1) 1 rfl) (by omega) (by omega)
        refine va_sld hx hb hXs hbl hbA hS (z_in rfl (by omega) (by omega)) dL_law_712 ?_
        refine lq_top (v := s1) (by rw [hs1]; exact congrArg xs (by rw [z_nat (x := x_198) rfl]; omega)) ?_
        have hFc := tw_free hF hS hA
        refine va_calli (va_runV (As := [.int s1]) (rest := []) ⟨hx, hb, hml, hown, hts⟩ (c_goes l dC dI ad av H.size a k τ ln y g u s1 hI ) (cwV 1 hts (gi_4 (im_law _ (List.mem_of_getElem? (i := 73) rfl)) (im_law _ (List.mem_of_getElem? (i := 74) rfl)) (im_law _ (List.mem_of_getElem? (i := 75) rfl)) (im_law _ (List.mem_of_getElem? (i := 3) rfl)) im_c_goes gd_c_goes) rfl rfl rfl (by decide +kernel) ⟨Nat.le_of_ble_eq_true rfl, Nat.le_of_ble_eq_true rfl⟩) ⟨pw_blind, tw_recv hK hT (fx_0 hX) (by decide) cl_e10 rfl, pw_use hT hK hFc hS hM⟩ rfl rfl hl.1 rfl (lv_room (Nat.le_of_ble_eq_true rfl)) dL_law_713 ⟨by show 200 + 4 * q + 0 ≤ 601024; omega, by show 60000 + 100 * q + 0 ≤ 7293034; omega⟩) hS (fun q _ h => hFc q h) hFc (fun r0 r_199 t H locs ht hvm hw hB hz1 hk1 hS => ?_)
        clear hvm hz1 hk1
        subst hw
        obtain ⟨um_200, hum_200, ⟨tm_200, lm_200, ym_200, gm_200, hMo, hKM, hI, hT⟩⟩ := hB
        rw [ht] at hT
        have hF : ∀ q, tm_200 q ≠ 0 → s.heap.size ≤ q := fun q h => hFc q (hMo.2 q h)
        have hJ := hJ.kp hKM hI.1
        have hW : IW (v 1) (v 2) (v 9) (ym_200 (a 89)) := by rw [hKM.fx hX (j := 89) (by decide) (by decide)]; exact hW
        have hTh : vb 38408 0 4800 (ym_200 (a 99)) := by rw [hKM.fx hX (j := 99) (by decide) (by decide)]; exact hTh
        have hX := hI.1
        have : um_200 8 = u 8 := hum_200 8 (by decide)
        refine lv_pop hx hb dL_law_716 rfl ?_
        refine lv_aload_n hx hb dL_law_717 rfl (lv_at hl 2 rfl) ?_
        refine lv_aload_n hx hb dL_law_718 rfl (lv_at hl 0 rfl) ?_
        refine lv_iload hx hb dL_law_719 (lv_at hl 4 rfl) ?_
        refine lv_iconst (v := 1) hx hb dL_law_721 (by decide) ?_
        refine lv_iadd hx hb dL_law_722 ?_
        refine lv_topi (fun x_201 ex_201 => ?_)
        have hx_201 := z_add ex_201 rfl (zk (x := 1) 1 rfl) (by omega) (by omega)
        refine va_sld hx hb hXs hbl hbA hS (z_in rfl (by omega) (by omega)) dL_law_723 ?_
        refine lq_top (v := s1) (by rw [hs1]; exact congrArg xs (by rw [z_nat (x := x_201) rfl]; omega)) ?_
        have hFc := tw_free hF hS hA
        refine va_calli (va_runV (As := [.int s1]) (rest := []) ⟨hx, hb, hml, hown, hts⟩ (m_goes l dC dI ad av H.size a k tm_200 lm_200 ym_200 gm_200 v s1 hJ hW) (cwV 1 hts (gi_4 (im_law _ (List.mem_of_getElem? (i := 76) rfl)) (im_law _ (List.mem_of_getElem? (i := 77) rfl)) (im_law _ (List.mem_of_getElem? (i := 78) rfl)) (im_law _ (List.mem_of_getElem? (i := 7) rfl)) im_m_goes gd_m_goes) rfl rfl rfl (by decide +kernel) ⟨Nat.le_of_ble_eq_true rfl, Nat.le_of_ble_eq_true rfl⟩) ⟨pw_blind, tw_recv hK hT (fx_50 hX) (by decide) cl_e60 rfl, pw_use hT hK hFc hS hM⟩ rfl rfl hl.1 rfl (lv_room (Nat.le_of_ble_eq_true rfl)) dL_law_724 ⟨by show 200 + 4 * q + 0 + 0 ≤ 601024; omega, by show 60000 + 100 * q + 0 + 0 ≤ 7293034; omega⟩) hS (fun q _ h => hFc q h) hFc (fun r0 r_202 t H locs ht hvm hw hB hz1 hk1 hS => ?_)
        clear hvm hz1 hk1
        subst hw
        obtain ⟨ym_203, gm_203, hgm_203, hggm_203, hJ, hT⟩ := hB
        rw [ht] at hT
        have hI := hI.ag hgm_203 (by decide)
        have hI := hI.agg hggm_203
        have hW : IW (v 1) (v 2) (v 9) (ym_203 (a 89)) := by rw [hgm_203.at (fx_89 hX) (by decide)]; exact hW
        have hTh : vb 38408 0 4800 (ym_203 (a 99)) := by rw [hgm_203.at (fx_99 hX) (by decide)]; exact hTh
        refine lv_pop hx hb dL_law_727 rfl ?_
        refine lv_goto (tgt := 1360) hx hb dL_law_728 (by decide) ?_
        obtain ⟨x_204, ex_204⟩ : ∃ y : Int32, y = i4 + Int32.ofInt 10 := ⟨_, rfl⟩
        have hx_204 := z_add ex_204 rfl (zk (x := Int32.ofInt 10) 10 rfl) (by omega) (by omega)
        refine lv_iinc (v := x_204) (lv' := [(4, .int x_204), (0, .ref b), (1, .ref (a 0)), (2, .ref (a 50)), (3, .ref (a 49))]) hx hb dL_law_1360 hl (k := 4) rfl ex_204.symm (by decide) rfl (fun ls hl => ?_)
        refine lv_goto (tgt := 23) hx hb dL_law_1363 (by decide) ?_
        refine W.widen (k := 200 + 4 * (q + 1)) (n := 60000 + 100 * (q + 1)) (by omega) (by omega) ?_
        exact ih (q + 1) x_204 tm_200 lm_200 ym_203 gm_203 um_200 v H _ ls (by omega) hF hI hJ hW hTh (by omega) (by omega) (by omega) (by omega) (by omega) hT hS (lv_sub hl [1, 2, 3, 4, 0] rfl)
      · refine lq_top (v := 13) t_5 ?_
        have nt_5 := z_eq rfl (zk (x := 13) 13 rfl) t_5
        refine lv_tableIn (tgt := 731) hx hb dL_law_40 (by decide) (by decide) (off := 691) (by decide) (by decide) ?_
        refine lv_aload_n hx hb dL_law_731 rfl (lv_at hl 1 rfl) ?_
        refine lv_aload_n hx hb dL_law_732 rfl (lv_at hl 0 rfl) ?_
        refine lv_iload hx hb dL_law_733 (lv_at hl 4 rfl) ?_
        refine lv_iconst (v := 1) hx hb dL_law_735 (by decide) ?_
        refine lv_iadd hx hb dL_law_736 ?_
        refine lv_topi (fun x_205 ex_205 => ?_)
        have hx_205 := z_add ex_205 rfl (zk (x := 1) 1 rfl) (by omega) (by omega)
        refine va_sld hx hb hXs hbl hbA hS (z_in rfl (by omega) (by omega)) dL_law_737 ?_
        refine lq_top (v := s1) (by rw [hs1]; exact congrArg xs (by rw [z_nat (x := x_205) rfl]; omega)) ?_
        have hFc := tw_free hF hS hA
        refine va_calli (va_runV (As := [.int s1]) (rest := []) ⟨hx, hb, hml, hown, hts⟩ (c_count l dC dI ad av H.size a k τ ln y g u s1 hI ) (cwV 1 hts (gi_4 (im_law _ (List.mem_of_getElem? (i := 79) rfl)) (im_law _ (List.mem_of_getElem? (i := 80) rfl)) (im_law _ (List.mem_of_getElem? (i := 81) rfl)) (im_law _ (List.mem_of_getElem? (i := 3) rfl)) im_c_count gd_c_count) rfl rfl rfl (by decide +kernel) ⟨Nat.le_of_ble_eq_true rfl, Nat.le_of_ble_eq_true rfl⟩) ⟨pw_blind, tw_recv hK hT (fx_0 hX) (by decide) cl_e10 rfl, pw_use hT hK hFc hS hM⟩ rfl rfl hl.1 rfl (lv_room (Nat.le_of_ble_eq_true rfl)) dL_law_738 ⟨by show 200 + 4 * q + 0 ≤ 601024; omega, by show 60000 + 100 * q + 0 ≤ 7293034; omega⟩) hS (fun q _ h => hFc q h) hFc (fun r0 r_206 t H locs ht hvm hw hB hz1 hk1 hS => ?_)
        clear hvm hz1 hk1
        subst hw
        obtain ⟨um_207, hum_207, ⟨tm_207, lm_207, ym_207, gm_207, hMo, hKM, hI, hT⟩⟩ := hB
        rw [ht] at hT
        have hF : ∀ q, tm_207 q ≠ 0 → s.heap.size ≤ q := fun q h => hFc q (hMo.2 q h)
        have hJ := hJ.kp hKM hI.1
        have hW : IW (v 1) (v 2) (v 9) (ym_207 (a 89)) := by rw [hKM.fx hX (j := 89) (by decide) (by decide)]; exact hW
        have hTh : vb 38408 0 4800 (ym_207 (a 99)) := by rw [hKM.fx hX (j := 99) (by decide) (by decide)]; exact hTh
        have hX := hI.1
        have : um_207 8 = u 8 := hum_207 8 (by decide)
        refine lv_pop hx hb dL_law_741 rfl ?_
        refine lv_aload_n hx hb dL_law_742 rfl (lv_at hl 2 rfl) ?_
        refine lv_aload_n hx hb dL_law_743 rfl (lv_at hl 0 rfl) ?_
        refine lv_iload hx hb dL_law_744 (lv_at hl 4 rfl) ?_
        refine lv_iconst (v := 1) hx hb dL_law_746 (by decide) ?_
        refine lv_iadd hx hb dL_law_747 ?_
        refine lv_topi (fun x_208 ex_208 => ?_)
        have hx_208 := z_add ex_208 rfl (zk (x := 1) 1 rfl) (by omega) (by omega)
        refine va_sld hx hb hXs hbl hbA hS (z_in rfl (by omega) (by omega)) dL_law_748 ?_
        refine lq_top (v := s1) (by rw [hs1]; exact congrArg xs (by rw [z_nat (x := x_208) rfl]; omega)) ?_
        have hFc := tw_free hF hS hA
        refine va_calli (va_runV (As := [.int s1]) (rest := []) ⟨hx, hb, hml, hown, hts⟩ (m_count l dC dI ad av H.size a k tm_207 lm_207 ym_207 gm_207 v s1 hJ hW) (cwV 1 hts (gi_4 (im_law _ (List.mem_of_getElem? (i := 82) rfl)) (im_law _ (List.mem_of_getElem? (i := 83) rfl)) (im_law _ (List.mem_of_getElem? (i := 84) rfl)) (im_law _ (List.mem_of_getElem? (i := 7) rfl)) im_m_count gd_m_count) rfl rfl rfl (by decide +kernel) ⟨Nat.le_of_ble_eq_true rfl, Nat.le_of_ble_eq_true rfl⟩) ⟨pw_blind, tw_recv hK hT (fx_50 hX) (by decide) cl_e60 rfl, pw_use hT hK hFc hS hM⟩ rfl rfl hl.1 rfl (lv_room (Nat.le_of_ble_eq_true rfl)) dL_law_749 ⟨by show 200 + 4 * q + 0 + 0 ≤ 601024; omega, by show 60000 + 100 * q + 0 + 0 ≤ 7293034; omega⟩) hS (fun q _ h => hFc q h) hFc (fun r0 r_209 t H locs ht hvm hw hB hz1 hk1 hS => ?_)
        clear hvm hz1 hk1
        subst hw
        obtain ⟨ym_210, gm_210, hgm_210, hggm_210, hJ, hT⟩ := hB
        rw [ht] at hT
        have hI := hI.ag hgm_210 (by decide)
        have hI := hI.agg hggm_210
        have hW : IW (v 1) (v 2) (v 9) (ym_210 (a 89)) := by rw [hgm_210.at (fx_89 hX) (by decide)]; exact hW
        have hTh : vb 38408 0 4800 (ym_210 (a 99)) := by rw [hgm_210.at (fx_99 hX) (by decide)]; exact hTh
        refine lv_pop hx hb dL_law_752 rfl ?_
        refine lv_goto (tgt := 1360) hx hb dL_law_753 (by decide) ?_
        obtain ⟨x_211, ex_211⟩ : ∃ y : Int32, y = i4 + Int32.ofInt 10 := ⟨_, rfl⟩
        have hx_211 := z_add ex_211 rfl (zk (x := Int32.ofInt 10) 10 rfl) (by omega) (by omega)
        refine lv_iinc (v := x_211) (lv' := [(4, .int x_211), (0, .ref b), (1, .ref (a 0)), (2, .ref (a 50)), (3, .ref (a 49))]) hx hb dL_law_1360 hl (k := 4) rfl ex_211.symm (by decide) rfl (fun ls hl => ?_)
        refine lv_goto (tgt := 23) hx hb dL_law_1363 (by decide) ?_
        refine W.widen (k := 200 + 4 * (q + 1)) (n := 60000 + 100 * (q + 1)) (by omega) (by omega) ?_
        exact ih (q + 1) x_211 tm_207 lm_207 ym_210 gm_210 um_207 v H _ ls (by omega) hF hI hJ hW hTh (by omega) (by omega) (by omega) (by omega) (by omega) hT hS (lv_sub hl [1, 2, 3, 4, 0] rfl)
      · refine lq_top (v := 14) t_5 ?_
        have nt_5 := z_eq rfl (zk (x := 14) 14 rfl) t_5
        refine lv_tableIn (tgt := 756) hx hb dL_law_40 (by decide) (by decide) (off := 716) (by decide) (by decide) ?_
        refine lv_aload_n hx hb dL_law_756 rfl (lv_at hl 1 rfl) ?_
        refine lv_aload_n hx hb dL_law_757 rfl (lv_at hl 0 rfl) ?_
        refine lv_iload hx hb dL_law_758 (lv_at hl 4 rfl) ?_
        refine lv_iconst (v := 1) hx hb dL_law_760 (by decide) ?_
        refine lv_iadd hx hb dL_law_761 ?_
        refine lv_topi (fun x_212 ex_212 => ?_)
        have hx_212 := z_add ex_212 rfl (zk (x := 1) 1 rfl) (by omega) (by omega)
        refine va_sld hx hb hXs hbl hbA hS (z_in rfl (by omega) (by omega)) dL_law_762 ?_
        refine lq_top (v := s1) (by rw [hs1]; exact congrArg xs (by rw [z_nat (x := x_212) rfl]; omega)) ?_
        refine lv_aload_n hx hb dL_law_763 rfl (lv_at hl 0 rfl) ?_
        refine lv_iload hx hb dL_law_764 (lv_at hl 4 rfl) ?_
        refine lv_iconst (v := 2) hx hb dL_law_766 (by decide) ?_
        refine lv_iadd hx hb dL_law_767 ?_
        refine lv_topi (fun x_213 ex_213 => ?_)
        have hx_213 := z_add ex_213 rfl (zk (x := 2) 2 rfl) (by omega) (by omega)
        refine va_sld hx hb hXs hbl hbA hS (z_in rfl (by omega) (by omega)) dL_law_768 ?_
        refine lq_top (v := s2) (by rw [hs2]; exact congrArg xs (by rw [z_nat (x := x_213) rfl]; omega)) ?_
        refine lv_aload_n hx hb dL_law_769 rfl (lv_at hl 0 rfl) ?_
        refine lv_iload hx hb dL_law_770 (lv_at hl 4 rfl) ?_
        refine lv_iconst (v := 3) hx hb dL_law_772 (by decide) ?_
        refine lv_iadd hx hb dL_law_773 ?_
        refine lv_topi (fun x_214 ex_214 => ?_)
        have hx_214 := z_add ex_214 rfl (zk (x := 3) 3 rfl) (by omega) (by omega)
        refine va_sld hx hb hXs hbl hbA hS (z_in rfl (by omega) (by omega)) dL_law_774 ?_
        refine lq_top (v := s3) (by rw [hs3]; exact congrArg xs (by rw [z_nat (x := x_214) rfl]; omega)) ?_
        refine lv_aload_n hx hb dL_law_775 rfl (lv_at hl 0 rfl) ?_
        refine lv_iload hx hb dL_law_776 (lv_at hl 4 rfl) ?_
        refine lv_iconst (v := 4) hx hb dL_law_778 (by decide) ?_
        refine lv_iadd hx hb dL_law_779 ?_
        refine lv_topi (fun x_215 ex_215 => ?_)
        have hx_215 := z_add ex_215 rfl (zk (x := 4) 4 rfl) (by omega) (by omega)
        refine va_sld hx hb hXs hbl hbA hS (z_in rfl (by omega) (by omega)) dL_law_780 ?_
        refine lq_top (v := s4) (by rw [hs4]; exact congrArg xs (by rw [z_nat (x := x_215) rfl]; omega)) ?_
        refine lv_aload_n hx hb dL_law_781 rfl (lv_at hl 0 rfl) ?_
        refine lv_iload hx hb dL_law_782 (lv_at hl 4 rfl) ?_
        refine lv_iconst (v := 5) hx hb dL_law_784 (by decide) ?_
        refine lv_iadd hx hb dL_law_785 ?_
        refine lv_topi (fun x_216 ex_216 => ?_)
        have hx_216 := z_add ex_216 rfl (zk (x := 5) 5 rfl) (by omega) (by omega)
        refine va_sld hx hb hXs hbl hbA hS (z_in rfl (by omega) (by omega)) dL_law_786 ?_
        refine lq_top (v := s5) (by rw [hs5]; exact congrArg xs (by rw [z_nat (x := x_216) rfl]; omega)) ?_
        have hFc := tw_free hF hS hA
        refine va_calli (va_runV (As := [.int s1, .int s2, .int s3, .int s4, .int s5]) (rest := []) ⟨hx, hb, hml, hown, hts⟩ (c_correct l dC dI ad av H.size a k τ ln y g u s1 s2 s3 s4 s5 hI ) (cwV 5 hts (gi_4 (im_law _ (List.mem_of_getElem? (i := 85) rfl)) (im_law _ (List.mem_of_getElem? (i := 86) rfl)) (im_law _ (List.mem_of_getElem? (i := 87) rfl)) (im_law _ (List.mem_of_getElem? (i := 3) rfl)) im_c_correct gd_c_correct) rfl rfl rfl (by decide +kernel) ⟨Nat.le_of_ble_eq_true rfl, Nat.le_of_ble_eq_true rfl⟩) ⟨pw_blind, tw_recv hK hT (fx_0 hX) (by decide) cl_e10 rfl, pw_use hT hK hFc hS hM⟩ rfl rfl hl.1 rfl (lv_room (Nat.le_of_ble_eq_true rfl)) dL_law_787 ⟨by show 200 + 4 * q + 1 ≤ 601024; omega, by show 60000 + 100 * q + 6 ≤ 7293034; omega⟩) hS (fun q _ h => hFc q h) hFc (fun r0 r_217 t H locs ht hvm hw hB hz1 hk1 hS => ?_)
        clear hvm hz1 hk1
        subst hw
        obtain ⟨um_218, hum_218, ⟨tm_218, lm_218, ym_218, gm_218, hMo, hKM, hI, hT⟩⟩ := hB
        rw [ht] at hT
        have hF : ∀ q, tm_218 q ≠ 0 → s.heap.size ≤ q := fun q h => hFc q (hMo.2 q h)
        have hJ := hJ.kp hKM hI.1
        have hW : IW (v 1) (v 2) (v 9) (ym_218 (a 89)) := by rw [hKM.fx hX (j := 89) (by decide) (by decide)]; exact hW
        have hTh : vb 38408 0 4800 (ym_218 (a 99)) := by rw [hKM.fx hX (j := 99) (by decide) (by decide)]; exact hTh
        have hX := hI.1
        have : um_218 8 = u 8 := hum_218 8 (by decide)
        refine lv_pop hx hb dL_law_790 rfl ?_
        refine lv_aload_n hx hb dL_law_791 rfl (lv_at hl 2 rfl) ?_
        refine lv_aload_n hx hb dL_law_792 rfl (lv_at hl 0 rfl) ?_
        refine lv_iload hx hb dL_law_793 (lv_at hl 4 rfl) ?_
        refine lv_iconst (v := 1) hx hb dL_law_795 (by decide) ?_
        refine lv_iadd hx hb dL_law_796 ?_
        refine lv_topi (fun x_219 ex_219 => ?_)
        have hx_219 := z_add ex_219 rfl (zk (x := 1) 1 rfl) (by omega) (by omega)
        refine va_sld hx hb hXs hbl hbA hS (z_in rfl (by omega) (by omega)) dL_law_797 ?_
        refine lq_top (v := s1) (by rw [hs1]; exact congrArg xs (by rw [z_nat (x := x_219) rfl]; omega)) ?_
        refine lv_aload_n hx hb dL_law_798 rfl (lv_at hl 0 rfl) ?_
        refine lv_iload hx hb dL_law_799 (lv_at hl 4 rfl) ?_
        refine lv_iconst (v := 2) hx hb dL_law_801 (by decide) ?_
        refine lv_iadd hx hb dL_law_802 ?_
        refine lv_topi (fun x_220 ex_220 => ?_)
        have hx_220 := z_add ex_220 rfl (zk (x := 2) 2 rfl) (by omega) (by omega)
        refine va_sld hx hb hXs hbl hbA hS (z_in rfl (by omega) (by omega)) dL_law_803 ?_
        refine lq_top (v := s2) (by rw [hs2]; exact congrArg xs (by rw [z_nat (x := x_220) rfl]; omega)) ?_
        refine lv_aload_n hx hb dL_law_804 rfl (lv_at hl 0 rfl) ?_
        refine lv_iload hx hb dL_law_805 (lv_at hl 4 rfl) ?_
        refine lv_iconst (v := 3) hx hb dL_law_807 (by decide) ?_
        refine lv_iadd hx hb dL_law_808 ?_
        refine lv_topi (fun x_221 ex_221 => ?_)
        have hx_221 := z_add ex_221 rfl (zk (x := 3) 3 rfl) (by omega) (by omega)
        refine va_sld hx hb hXs hbl hbA hS (z_in rfl (by omega) (by omega)) dL_law_809 ?_
        refine lq_top (v := s3) (by rw [hs3]; exact congrArg xs (by rw [z_nat (x := x_221) rfl]; omega)) ?_
        refine lv_aload_n hx hb dL_law_810 rfl (lv_at hl 0 rfl) ?_
        refine lv_iload hx hb dL_law_811 (lv_at hl 4 rfl) ?_
        refine lv_iconst (v := 4) hx hb dL_law_813 (by decide) ?_
        refine lv_iadd hx hb dL_law_814 ?_
        refine lv_topi (fun x_222 ex_222 => ?_)
        have hx_222 := z_add ex_222 rfl (zk (x := 4) 4 rfl) (by omega) (by omega)
        refine va_sld hx hb hXs hbl hbA hS (z_in rfl (by omega) (by omega)) dL_law_815 ?_
        refine lq_top (v := s4) (by rw [hs4]; exact congrArg xs (by rw [z_nat (x := x_222) rfl]; omega)) ?_
        refine lv_aload_n hx hb dL_law_816 rfl (lv_at hl 0 rfl) ?_
        refine lv_iload hx hb dL_law_817 (lv_at hl 4 rfl) ?_
        refine lv_iconst (v := 5) hx hb dL_law_819 (by decide) ?_
        refine lv_iadd hx hb dL_law_820 ?_
        refine lv_topi (fun x_223 ex_223 => ?_)
        have hx_223 := z_add ex_223 rfl (zk (x := 5) 5 rfl) (by omega) (by omega)
        refine va_sld hx hb hXs hbl hbA hS (z_in rfl (by omega) (by omega)) dL_law_821 ?_
        refine lq_top (v := s5) (by rw [hs5]; exact congrArg xs (by rw [z_nat (x := x_223) rfl]; omega)) ?_
        have hFc := tw_free hF hS hA
        refine va_calli (va_runV (As := [.int s1, .int s2, .int s3, .int s4, .int s5]) (rest := []) ⟨hx, hb, hml, hown, hts⟩ (m_correct l dC dI ad av H.size a k tm_218 lm_218 ym_218 gm_218 v s1 s2 s3 s4 s5 hJ hW) (cwV 5 hts (gi_4 (im_law _ (List.mem_of_getElem? (i := 88) rfl)) (im_law _ (List.mem_of_getElem? (i := 89) rfl)) (im_law _ (List.mem_of_getElem? (i := 90) rfl)) (im_law _ (List.mem_of_getElem? (i := 7) rfl)) im_m_correct gd_m_correct) rfl rfl rfl (by decide +kernel) ⟨Nat.le_of_ble_eq_true rfl, Nat.le_of_ble_eq_true rfl⟩) ⟨pw_blind, tw_recv hK hT (fx_50 hX) (by decide) cl_e60 rfl, pw_use hT hK hFc hS hM⟩ rfl rfl hl.1 rfl (lv_room (Nat.le_of_ble_eq_true rfl)) dL_law_822 ⟨by show 200 + 4 * q + 1 + 0 ≤ 601024; omega, by show 60000 + 100 * q + 6 + 0 ≤ 7293034; omega⟩) hS (fun q _ h => hFc q h) hFc (fun r0 r_224 t H locs ht hvm hw hB hz1 hk1 hS => ?_)
        clear hvm hz1 hk1
        subst hw
        obtain ⟨um_225, ym_225, gm_225, hum_225, hgm_225, hggm_225, hJ, hT⟩ := hB
        rw [ht] at hT
        have hI := hI.ag hgm_225 (by decide)
        have hI := hI.agg hggm_225
        have hW : IW (um_225 1) (um_225 2) (um_225 9) (ym_225 (a 89)) := by rw [hgm_225.at (fx_89 hX) (by decide)]; exact iw_u hW (hum_225 1 (by decide)) (hum_225 2 (by decide)) (hum_225 9 (by decide))
        have hTh : vb 38408 0 4800 (ym_225 (a 99)) := by rw [hgm_225.at (fx_99 hX) (by decide)]; exact hTh
        have : um_225 8 = v 8 := hum_225 8 (by decide)
        have : um_225 3 = v 3 := hum_225 3 (by decide)
        have : um_225 10 = v 10 := hum_225 10 (by decide)
        refine lv_pop hx hb dL_law_825 rfl ?_
        refine lv_goto (tgt := 1360) hx hb dL_law_826 (by decide) ?_
        obtain ⟨x_226, ex_226⟩ : ∃ y : Int32, y = i4 + Int32.ofInt 10 := ⟨_, rfl⟩
        have hx_226 := z_add ex_226 rfl (zk (x := Int32.ofInt 10) 10 rfl) (by omega) (by omega)
        refine lv_iinc (v := x_226) (lv' := [(4, .int x_226), (0, .ref b), (1, .ref (a 0)), (2, .ref (a 50)), (3, .ref (a 49))]) hx hb dL_law_1360 hl (k := 4) rfl ex_226.symm (by decide) rfl (fun ls hl => ?_)
        refine lv_goto (tgt := 23) hx hb dL_law_1363 (by decide) ?_
        refine W.widen (k := 200 + 4 * (q + 1)) (n := 60000 + 100 * (q + 1)) (by omega) (by omega) ?_
        exact ih (q + 1) x_226 tm_218 lm_218 ym_225 gm_225 um_218 um_225 H _ ls (by omega) hF hI hJ hW hTh (by omega) (by omega) (by omega) (by omega) (by omega) hT hS (lv_sub hl [1, 2, 3, 4, 0] rfl)
      · refine lq_top (v := 15) t_5 ?_
        have nt_5 := z_eq rfl (zk (x := 15) 15 rfl) t_5
        refine lv_tableIn (tgt := 829) hx hb dL_law_40 (by decide) (by decide) (off := 789) (by decide) (by decide) ?_
        refine lv_aload_n hx hb dL_law_829 rfl (lv_at hl 1 rfl) ?_
        refine lv_aload_n hx hb dL_law_830 rfl (lv_at hl 0 rfl) ?_
        refine lv_iload hx hb dL_law_831 (lv_at hl 4 rfl) ?_
        refine lv_iconst (v := 1) hx hb dL_law_833 (by decide) ?_
        refine lv_iadd hx hb dL_law_834 ?_
        refine lv_topi (fun x_227 ex_227 => ?_)
        have hx_227 := z_add ex_227 rfl (zk (x := 1) 1 rfl) (by omega) (by omega)
        refine va_sld hx hb hXs hbl hbA hS (z_in rfl (by omega) (by omega)) dL_law_835 ?_
        refine lq_top (v := s1) (by rw [hs1]; exact congrArg xs (by rw [z_nat (x := x_227) rfl]; omega)) ?_
        refine lv_aload_n hx hb dL_law_836 rfl (lv_at hl 0 rfl) ?_
        refine lv_iload hx hb dL_law_837 (lv_at hl 4 rfl) ?_
        refine lv_iconst (v := 2) hx hb dL_law_839 (by decide) ?_
        refine lv_iadd hx hb dL_law_840 ?_
        refine lv_topi (fun x_228 ex_228 => ?_)
        have hx_228 := z_add ex_228 rfl (zk (x := 2) 2 rfl) (by omega) (by omega)
        refine va_sld hx hb hXs hbl hbA hS (z_in rfl (by omega) (by omega)) dL_law_841 ?_
        refine lq_top (v := s2) (by rw [hs2]; exact congrArg xs (by rw [z_nat (x := x_228) rfl]; omega)) ?_
        have hFc := tw_free hF hS hA
        refine va_calli (va_runV (As := [.int s1, .int s2]) (rest := []) ⟨hx, hb, hml, hown, hts⟩ (c_undo l dC dI ad av H.size a k τ ln y g u s1 s2 hI ) (cwV 2 hts (gi_4 (im_law _ (List.mem_of_getElem? (i := 91) rfl)) (im_law _ (List.mem_of_getElem? (i := 92) rfl)) (im_law _ (List.mem_of_getElem? (i := 93) rfl)) (im_law _ (List.mem_of_getElem? (i := 3) rfl)) im_c_undo gd_c_undo) rfl rfl rfl (by decide +kernel) ⟨Nat.le_of_ble_eq_true rfl, Nat.le_of_ble_eq_true rfl⟩) ⟨pw_blind, tw_recv hK hT (fx_0 hX) (by decide) cl_e10 rfl, pw_use hT hK hFc hS hM⟩ rfl rfl hl.1 rfl (lv_room (Nat.le_of_ble_eq_true rfl)) dL_law_842 ⟨by show 200 + 4 * q + 0 ≤ 601024; omega, by show 60000 + 100 * q + 0 ≤ 7293034; omega⟩) hS (fun q _ h => hFc q h) hFc (fun r0 r_229 t H locs ht hvm hw hB hz1 hk1 hS => ?_)
        clear hvm hz1 hk1
        subst hw
        rcases hB with ⟨um_230, hre, hum_230, ⟨tm_230, lm_230, ym_230, gm_230, hMo, hKM, hI, hT⟩⟩ | ⟨um_231, hre, hum_231, ⟨tm_231, lm_231, ym_231, gm_231, hMo, hKM, hI, hT⟩⟩
        · refine lq_top (v := 1) hre ?_
          rw [ht] at hT
          have hF : ∀ q, tm_230 q ≠ 0 → s.heap.size ≤ q := fun q h => hFc q (hMo.2 q h)
          have hJ := hJ.kp hKM hI.1
          have hW : IW (v 1) (v 2) (v 9) (ym_230 (a 89)) := by rw [hKM.fx hX (j := 89) (by decide) (by decide)]; exact hW
          have hTh : vb 38408 0 4800 (ym_230 (a 99)) := by rw [hKM.fx hX (j := 99) (by decide) (by decide)]; exact hTh
          have hX := hI.1
          have : um_230 8 = u 8 := hum_230 8 (by decide)
          refine lv_pop hx hb dL_law_845 rfl ?_
          refine lv_aload_n hx hb dL_law_846 rfl (lv_at hl 2 rfl) ?_
          refine lv_aload_n hx hb dL_law_847 rfl (lv_at hl 0 rfl) ?_
          refine lv_iload hx hb dL_law_848 (lv_at hl 4 rfl) ?_
          refine lv_iconst (v := 1) hx hb dL_law_850 (by decide) ?_
          refine lv_iadd hx hb dL_law_851 ?_
          refine lv_topi (fun x_232 ex_232 => ?_)
          have hx_232 := z_add ex_232 rfl (zk (x := 1) 1 rfl) (by omega) (by omega)
          refine va_sld hx hb hXs hbl hbA hS (z_in rfl (by omega) (by omega)) dL_law_852 ?_
          refine lq_top (v := s1) (by rw [hs1]; exact congrArg xs (by rw [z_nat (x := x_232) rfl]; omega)) ?_
          refine lv_aload_n hx hb dL_law_853 rfl (lv_at hl 0 rfl) ?_
          refine lv_iload hx hb dL_law_854 (lv_at hl 4 rfl) ?_
          refine lv_iconst (v := 2) hx hb dL_law_856 (by decide) ?_
          refine lv_iadd hx hb dL_law_857 ?_
          refine lv_topi (fun x_233 ex_233 => ?_)
          have hx_233 := z_add ex_233 rfl (zk (x := 2) 2 rfl) (by omega) (by omega)
          refine va_sld hx hb hXs hbl hbA hS (z_in rfl (by omega) (by omega)) dL_law_858 ?_
          refine lq_top (v := s2) (by rw [hs2]; exact congrArg xs (by rw [z_nat (x := x_233) rfl]; omega)) ?_
          have hFc := tw_free hF hS hA
          refine va_calli (va_runV (As := [.int s1, .int s2]) (rest := []) ⟨hx, hb, hml, hown, hts⟩ (m_undo l dC dI ad av H.size a k tm_230 lm_230 ym_230 gm_230 v s1 s2 hJ hW) (cwV 2 hts (gi_4 (im_law _ (List.mem_of_getElem? (i := 94) rfl)) (im_law _ (List.mem_of_getElem? (i := 95) rfl)) (im_law _ (List.mem_of_getElem? (i := 96) rfl)) (im_law _ (List.mem_of_getElem? (i := 7) rfl)) im_m_undo gd_m_undo) rfl rfl rfl (by decide +kernel) ⟨Nat.le_of_ble_eq_true rfl, Nat.le_of_ble_eq_true rfl⟩) ⟨pw_blind, tw_recv hK hT (fx_50 hX) (by decide) cl_e60 rfl, pw_use hT hK hFc hS hM⟩ rfl rfl hl.1 rfl (lv_room (Nat.le_of_ble_eq_true rfl)) dL_law_859 ⟨by show 200 + 4 * q + 0 + 0 ≤ 601024; omega, by show 60000 + 100 * q + 0 + 0 ≤ 7293034; omega⟩) hS (fun q _ h => hFc q h) hFc (fun r0 r_234 t H locs ht hvm hw hB hz1 hk1 hS => ?_)
          clear hvm hz1 hk1
          subst hw
          rcases hB with ⟨ym_235, gm_235, hre, hgm_235, hggm_235, hJ, hT⟩ | ⟨ym_236, gm_236, hre, hgm_236, hggm_236, hJ, hT⟩
          · refine lq_top (v := 1) hre ?_
            rw [ht] at hT
            have hI := hI.ag hgm_235 (by decide)
            have hI := hI.agg hggm_235
            have hW : IW (v 1) (v 2) (v 9) (ym_235 (a 89)) := by rw [hgm_235.at (fx_89 hX) (by decide)]; exact hW
            have hTh : vb 38408 0 4800 (ym_235 (a 99)) := by rw [hgm_235.at (fx_99 hX) (by decide)]; exact hTh
            refine lv_pop hx hb dL_law_862 rfl ?_
            refine lv_goto (tgt := 1360) hx hb dL_law_863 (by decide) ?_
            obtain ⟨x_237, ex_237⟩ : ∃ y : Int32, y = i4 + Int32.ofInt 10 := ⟨_, rfl⟩
            have hx_237 := z_add ex_237 rfl (zk (x := Int32.ofInt 10) 10 rfl) (by omega) (by omega)
            refine lv_iinc (v := x_237) (lv' := [(4, .int x_237), (0, .ref b), (1, .ref (a 0)), (2, .ref (a 50)), (3, .ref (a 49))]) hx hb dL_law_1360 hl (k := 4) rfl ex_237.symm (by decide) rfl (fun ls hl => ?_)
            refine lv_goto (tgt := 23) hx hb dL_law_1363 (by decide) ?_
            refine W.widen (k := 200 + 4 * (q + 1)) (n := 60000 + 100 * (q + 1)) (by omega) (by omega) ?_
            exact ih (q + 1) x_237 tm_230 lm_230 ym_235 gm_235 um_230 v H _ ls (by omega) hF hI hJ hW hTh (by omega) (by omega) (by omega) (by omega) (by omega) hT hS (lv_sub hl [1, 2, 3, 4, 0] rfl)
          · refine lq_top (v := 0) hre ?_
            rw [ht] at hT
            have hI := hI.ag hgm_236 (by decide)
            have hI := hI.agg hggm_236
            have hW : IW (v 1) (v 2) (v 9) (ym_236 (a 89)) := by rw [hgm_236.at (fx_89 hX) (by decide)]; exact hW
            have hTh : vb 38408 0 4800 (ym_236 (a 99)) := by rw [hgm_236.at (fx_99 hX) (by decide)]; exact hTh
            refine lv_pop hx hb dL_law_862 rfl ?_
            refine lv_goto (tgt := 1360) hx hb dL_law_863 (by decide) ?_
            obtain ⟨x_238, ex_238⟩ : ∃ y : Int32, y = i4 + Int32.ofInt 10 := ⟨_, rfl⟩
            have hx_238 := z_add ex_238 rfl (zk (x := Int32.ofInt 10) 10 rfl) (by omega) (by omega)
            refine lv_iinc (v := x_238) (lv' := [(4, .int x_238), (0, .ref b), (1, .ref (a 0)), (2, .ref (a 50)), (3, .ref (a 49))]) hx hb dL_law_1360 hl (k := 4) rfl ex_238.symm (by decide) rfl (fun ls hl => ?_)
            refine lv_goto (tgt := 23) hx hb dL_law_1363 (by decide) ?_
            refine W.widen (k := 200 + 4 * (q + 1)) (n := 60000 + 100 * (q + 1)) (by omega) (by omega) ?_
            exact ih (q + 1) x_238 tm_230 lm_230 ym_236 gm_236 um_230 v H _ ls (by omega) hF hI hJ hW hTh (by omega) (by omega) (by omega) (by omega) (by omega) hT hS (lv_sub hl [1, 2, 3, 4, 0] rfl)
        · refine lq_top (v := 0) hre ?_
          rw [ht] at hT
          have hF : ∀ q, tm_231 q ≠ 0 → s.heap.size ≤ q := fun q h => hFc q (hMo.2 q h)
          have hJ := hJ.kp hKM hI.1
          have hW : IW (v 1) (v 2) (v 9) (ym_231 (a 89)) := by rw [hKM.fx hX (j := 89) (by decide) (by decide)]; exact hW
          have hTh : vb 38408 0 4800 (ym_231 (a 99)) := by rw [hKM.fx hX (j := 99) (by decide) (by decide)]; exact hTh
          have hX := hI.1
          have : um_231 8 = u 8 := hum_231 8 (by decide)
          refine lv_pop hx hb dL_law_845 rfl ?_
          refine lv_aload_n hx hb dL_law_846 rfl (lv_at hl 2 rfl) ?_
          refine lv_aload_n hx hb dL_law_847 rfl (lv_at hl 0 rfl) ?_
          refine lv_iload hx hb dL_law_848 (lv_at hl 4 rfl) ?_
          refine lv_iconst (v := 1) hx hb dL_law_850 (by decide) ?_
          refine lv_iadd hx hb dL_law_851 ?_
          refine lv_topi (fun x_239 ex_239 => ?_)
          have hx_239 := z_add ex_239 rfl (zk (x := 1) 1 rfl) (by omega) (by omega)
          refine va_sld hx hb hXs hbl hbA hS (z_in rfl (by omega) (by omega)) dL_law_852 ?_
          refine lq_top (v := s1) (by rw [hs1]; exact congrArg xs (by rw [z_nat (x := x_239) rfl]; omega)) ?_
          refine lv_aload_n hx hb dL_law_853 rfl (lv_at hl 0 rfl) ?_
          refine lv_iload hx hb dL_law_854 (lv_at hl 4 rfl) ?_
          refine lv_iconst (v := 2) hx hb dL_law_856 (by decide) ?_
          refine lv_iadd hx hb dL_law_857 ?_
          refine lv_topi (fun x_240 ex_240 => ?_)
          have hx_240 := z_add ex_240 rfl (zk (x := 2) 2 rfl) (by omega) (by omega)
          refine va_sld hx hb hXs hbl hbA hS (z_in rfl (by omega) (by omega)) dL_law_858 ?_
          refine lq_top (v := s2) (by rw [hs2]; exact congrArg xs (by rw [z_nat (x := x_240) rfl]; omega)) ?_
          have hFc := tw_free hF hS hA
          refine va_calli (va_runV (As := [.int s1, .int s2]) (rest := []) ⟨hx, hb, hml, hown, hts⟩ (m_undo l dC dI ad av H.size a k tm_231 lm_231 ym_231 gm_231 v s1 s2 hJ hW) (cwV 2 hts (gi_4 (im_law _ (List.mem_of_getElem? (i := 94) rfl)) (im_law _ (List.mem_of_getElem? (i := 95) rfl)) (im_law _ (List.mem_of_getElem? (i := 96) rfl)) (im_law _ (List.mem_of_getElem? (i := 7) rfl)) im_m_undo gd_m_undo) rfl rfl rfl (by decide +kernel) ⟨Nat.le_of_ble_eq_true rfl, Nat.le_of_ble_eq_true rfl⟩) ⟨pw_blind, tw_recv hK hT (fx_50 hX) (by decide) cl_e60 rfl, pw_use hT hK hFc hS hM⟩ rfl rfl hl.1 rfl (lv_room (Nat.le_of_ble_eq_true rfl)) dL_law_859 ⟨by show 200 + 4 * q + 0 + 0 ≤ 601024; omega, by show 60000 + 100 * q + 0 + 0 ≤ 7293034; omega⟩) hS (fun q _ h => hFc q h) hFc (fun r0 r_241 t H locs ht hvm hw hB hz1 hk1 hS => ?_)
          clear hvm hz1 hk1
          subst hw
          rcases hB with ⟨ym_242, gm_242, hre, hgm_242, hggm_242, hJ, hT⟩ | ⟨ym_243, gm_243, hre, hgm_243, hggm_243, hJ, hT⟩
          · refine lq_top (v := 1) hre ?_
            rw [ht] at hT
            have hI := hI.ag hgm_242 (by decide)
            have hI := hI.agg hggm_242
            have hW : IW (v 1) (v 2) (v 9) (ym_242 (a 89)) := by rw [hgm_242.at (fx_89 hX) (by decide)]; exact hW
            have hTh : vb 38408 0 4800 (ym_242 (a 99)) := by rw [hgm_242.at (fx_99 hX) (by decide)]; exact hTh
            refine lv_pop hx hb dL_law_862 rfl ?_
            refine lv_goto (tgt := 1360) hx hb dL_law_863 (by decide) ?_
            obtain ⟨x_244, ex_244⟩ : ∃ y : Int32, y = i4 + Int32.ofInt 10 := ⟨_, rfl⟩
            have hx_244 := z_add ex_244 rfl (zk (x := Int32.ofInt 10) 10 rfl) (by omega) (by omega)
            refine lv_iinc (v := x_244) (lv' := [(4, .int x_244), (0, .ref b), (1, .ref (a 0)), (2, .ref (a 50)), (3, .ref (a 49))]) hx hb dL_law_1360 hl (k := 4) rfl ex_244.symm (by decide) rfl (fun ls hl => ?_)
            refine lv_goto (tgt := 23) hx hb dL_law_1363 (by decide) ?_
            refine W.widen (k := 200 + 4 * (q + 1)) (n := 60000 + 100 * (q + 1)) (by omega) (by omega) ?_
            exact ih (q + 1) x_244 tm_231 lm_231 ym_242 gm_242 um_231 v H _ ls (by omega) hF hI hJ hW hTh (by omega) (by omega) (by omega) (by omega) (by omega) hT hS (lv_sub hl [1, 2, 3, 4, 0] rfl)
          · refine lq_top (v := 0) hre ?_
            rw [ht] at hT
            have hI := hI.ag hgm_243 (by decide)
            have hI := hI.agg hggm_243
            have hW : IW (v 1) (v 2) (v 9) (ym_243 (a 89)) := by rw [hgm_243.at (fx_89 hX) (by decide)]; exact hW
            have hTh : vb 38408 0 4800 (ym_243 (a 99)) := by rw [hgm_243.at (fx_99 hX) (by decide)]; exact hTh
            refine lv_pop hx hb dL_law_862 rfl ?_
            refine lv_goto (tgt := 1360) hx hb dL_law_863 (by decide) ?_
            obtain ⟨x_245, ex_245⟩ : ∃ y : Int32, y = i4 + Int32.ofInt 10 := ⟨_, rfl⟩
            have hx_245 := z_add ex_245 rfl (zk (x := Int32.ofInt 10) 10 rfl) (by omega) (by omega)
            refine lv_iinc (v := x_245) (lv' := [(4, .int x_245), (0, .ref b), (1, .ref (a 0)), (2, .ref (a 50)), (3, .ref (a 49))]) hx hb dL_law_1360 hl (k := 4) rfl ex_245.symm (by decide) rfl (fun ls hl => ?_)
            refine lv_goto (tgt := 23) hx hb dL_law_1363 (by decide) ?_
            refine W.widen (k := 200 + 4 * (q + 1)) (n := 60000 + 100 * (q + 1)) (by omega) (by omega) ?_
            exact ih (q + 1) x_245 tm_231 lm_231 ym_243 gm_243 um_231 v H _ ls (by omega) hF hI hJ hW hTh (by omega) (by omega) (by omega) (by omega) (by omega) hT hS (lv_sub hl [1, 2, 3, 4, 0] rfl)
      · refine lq_top (v := 16) t_5 ?_
        have nt_5 := z_eq rfl (zk (x := 16) 16 rfl) t_5
        refine lv_tableIn (tgt := 866) hx hb dL_law_40 (by decide) (by decide) (off := 826) (by decide) (by decide) ?_
        refine lv_aload_n hx hb dL_law_866 rfl (lv_at hl 1 rfl) ?_
        refine lv_aload_n hx hb dL_law_867 rfl (lv_at hl 0 rfl) ?_
        refine lv_iload hx hb dL_law_868 (lv_at hl 4 rfl) ?_
        refine lv_iconst (v := 1) hx hb dL_law_870 (by decide) ?_
        refine lv_iadd hx hb dL_law_871 ?_
        refine lv_topi (fun x_246 ex_246 => ?_)
        have hx_246 := z_add ex_246 rfl (zk (x := 1) 1 rfl) (by omega) (by omega)
        refine va_sld hx hb hXs hbl hbA hS (z_in rfl (by omega) (by omega)) dL_law_872 ?_
        refine lq_top (v := s1) (by rw [hs1]; exact congrArg xs (by rw [z_nat (x := x_246) rfl]; omega)) ?_
        have hFc := tw_free hF hS hA
        refine va_calli (va_runV (As := [.int s1]) (rest := []) ⟨hx, hb, hml, hown, hts⟩ (c_as l dC dI ad av H.size a k τ ln y g u s1 hI ) (cwV 1 hts (gi_4 (im_law _ (List.mem_of_getElem? (i := 97) rfl)) (im_law _ (List.mem_of_getElem? (i := 98) rfl)) (im_law _ (List.mem_of_getElem? (i := 99) rfl)) (im_law _ (List.mem_of_getElem? (i := 3) rfl)) im_c_as gd_c_as) rfl rfl rfl (by decide +kernel) ⟨Nat.le_of_ble_eq_true rfl, Nat.le_of_ble_eq_true rfl⟩) ⟨pw_blind, tw_recv hK hT (fx_0 hX) (by decide) cl_e10 rfl, pw_use hT hK hFc hS hM⟩ rfl rfl hl.1 rfl (lv_room (Nat.le_of_ble_eq_true rfl)) dL_law_873 ⟨by show 200 + 4 * q + 0 ≤ 601024; omega, by show 60000 + 100 * q + 0 ≤ 7293034; omega⟩) hS (fun q _ h => hFc q h) hFc (fun r0 r_247 t H locs ht hvm hw hB hz1 hk1 hS => ?_)
        clear hvm hz1 hk1
        subst hw
        rcases hB with ⟨um_248, hre, hum_248, hf_249, ⟨tm_248, lm_248, ym_248, gm_248, hMo, hKM, hI, hT⟩⟩ | ⟨um_250, hum_250, hf_251, hf_252, hf_253, ⟨tm_250, lm_250, ym_250, gm_250, hMo, hKM, hI, hT⟩⟩
        · refine lq_top (v := (-1)) hre ?_
          rw [ht] at hT
          have hF : ∀ q, tm_248 q ≠ 0 → s.heap.size ≤ q := fun q h => hFc q (hMo.2 q h)
          have hJ := hJ.kp hKM hI.1
          have hW : IW (v 1) (v 2) (v 9) (ym_248 (a 89)) := by rw [hKM.fx hX (j := 89) (by decide) (by decide)]; exact hW
          have hTh : vb 38408 0 4800 (ym_248 (a 99)) := by rw [hKM.fx hX (j := 99) (by decide) (by decide)]; exact hTh
          have hX := hI.1
          have : um_248 8 = u 8 := hum_248 8 (by decide)
          refine lv_aload_n hx hb dL_law_876 rfl (lv_at hl 2 rfl) ?_
          refine lv_aload_n hx hb dL_law_877 rfl (lv_at hl 0 rfl) ?_
          refine lv_iload hx hb dL_law_878 (lv_at hl 4 rfl) ?_
          refine lv_iconst (v := 1) hx hb dL_law_880 (by decide) ?_
          refine lv_iadd hx hb dL_law_881 ?_
          refine lv_topi (fun x_254 ex_254 => ?_)
          have hx_254 := z_add ex_254 rfl (zk (x := 1) 1 rfl) (by omega) (by omega)
          refine va_sld hx hb hXs hbl hbA hS (z_in rfl (by omega) (by omega)) dL_law_882 ?_
          refine lq_top (v := s1) (by rw [hs1]; exact congrArg xs (by rw [z_nat (x := x_254) rfl]; omega)) ?_
          have hFc := tw_free hF hS hA
          refine va_calli (va_runV (As := [.int s1]) (rest := [.int (-1)]) ⟨hx, hb, hml, hown, hts⟩ (m_as l dC dI ad av H.size a k tm_248 lm_248 ym_248 gm_248 v s1 hJ hW) (cwV 1 hts (gi_4 (im_law _ (List.mem_of_getElem? (i := 100) rfl)) (im_law _ (List.mem_of_getElem? (i := 101) rfl)) (im_law _ (List.mem_of_getElem? (i := 102) rfl)) (im_law _ (List.mem_of_getElem? (i := 7) rfl)) im_m_as gd_m_as) rfl rfl rfl (by decide +kernel) ⟨Nat.le_of_ble_eq_true rfl, Nat.le_of_ble_eq_true rfl⟩) ⟨pw_blind, tw_recv hK hT (fx_50 hX) (by decide) cl_e60 rfl, pw_use hT hK hFc hS hM⟩ rfl rfl hl.1 rfl (lv_room (Nat.le_of_ble_eq_true rfl)) dL_law_883 ⟨by show 200 + 4 * q + 0 + 0 ≤ 601024; omega, by show 60000 + 100 * q + 0 + 0 ≤ 7293034; omega⟩) hS (fun q _ h => hFc q h) hFc (fun r0 r_255 t H locs ht hvm hw hB hz1 hk1 hS => ?_)
          clear hvm hz1 hk1
          subst hw
          rcases hB with ⟨um_256, ym_256, gm_256, hre, hum_256, hgm_256, hggm_256, hJ, hf_257, hf_258, hT⟩ | ⟨um_259, ym_259, gm_259, hum_259, hgm_259, hggm_259, hJ, hf_260, hf_261, hf_262, hT⟩
          · refine lq_top (v := (-1)) hre ?_
            rw [ht] at hT
            have hI := hI.ag hgm_256 (by decide)
            have hI := hI.agg hggm_256
            have hW : IW (um_256 1) (um_256 2) (um_256 9) (ym_256 (a 89)) := by rw [hgm_256.at (fx_89 hX) (by decide)]; exact iw_u hW (hum_256 1 (by decide)) (hum_256 2 (by decide)) (hum_256 9 (by decide))
            have hTh : vb 38408 0 4800 (ym_256 (a 99)) := by rw [hgm_256.at (fx_99 hX) (by decide)]; exact hTh
            have : um_256 3 = v 3 := hum_256 3 (by decide)
            have : um_256 10 = v 10 := hum_256 10 (by decide)
            refine lv_icmp_eq (tgt := 1360) hx hb dL_law_886 (by decide) (fun c_263 => ?_) (fun c_263 => absurd c_263 (by decide))
            obtain ⟨x_264, ex_264⟩ : ∃ y : Int32, y = i4 + Int32.ofInt 10 := ⟨_, rfl⟩
            have hx_264 := z_add ex_264 rfl (zk (x := Int32.ofInt 10) 10 rfl) (by omega) (by omega)
            refine lv_iinc (v := x_264) (lv' := [(4, .int x_264), (0, .ref b), (1, .ref (a 0)), (2, .ref (a 50)), (3, .ref (a 49))]) hx hb dL_law_1360 hl (k := 4) rfl ex_264.symm (by decide) rfl (fun ls hl => ?_)
            refine lv_goto (tgt := 23) hx hb dL_law_1363 (by decide) ?_
            refine W.widen (k := 200 + 4 * (q + 1)) (n := 60000 + 100 * (q + 1)) (by omega) (by omega) ?_
            exact ih (q + 1) x_264 tm_248 lm_248 ym_256 gm_256 um_248 um_256 H _ ls (by omega) hF hI hJ hW hTh (by omega) (by omega) (by omega) (by omega) (by omega) hT hS (lv_sub hl [1, 2, 3, 4, 0] rfl)
          · rw [ht] at hT
            have hI := hI.ag hgm_259 (by decide)
            have hI := hI.agg hggm_259
            have hW : IW (um_259 1) (um_259 2) (um_259 9) (ym_259 (a 89)) := by rw [hgm_259.at (fx_89 hX) (by decide)]; exact iw_u hW (hum_259 1 (by decide)) (hum_259 2 (by decide)) (hum_259 9 (by decide))
            have hTh : vb 38408 0 4800 (ym_259 (a 99)) := by rw [hgm_259.at (fx_99 hX) (by decide)]; exact hTh
            have : um_259 3 = v 3 := hum_259 3 (by decide)
            have : um_259 10 = v 10 := hum_259 10 (by decide)
            refine lv_icmp_eq (tgt := 1360) hx hb dL_law_886 (by decide) (fun c_265 => ?_) (fun c_265 => ?_)
            · have nc_265 := z_eq (zk (x := (-1)) (-1) rfl) rfl c_265
              obtain ⟨x_266, ex_266⟩ : ∃ y : Int32, y = i4 + Int32.ofInt 10 := ⟨_, rfl⟩
              have hx_266 := z_add ex_266 rfl (zk (x := Int32.ofInt 10) 10 rfl) (by omega) (by omega)
              refine lv_iinc (v := x_266) (lv' := [(4, .int x_266), (0, .ref b), (1, .ref (a 0)), (2, .ref (a 50)), (3, .ref (a 49))]) hx hb dL_law_1360 hl (k := 4) rfl ex_266.symm (by decide) rfl (fun ls hl => ?_)
              refine lv_goto (tgt := 23) hx hb dL_law_1363 (by decide) ?_
              refine W.widen (k := 200 + 4 * (q + 1)) (n := 60000 + 100 * (q + 1)) (by omega) (by omega) ?_
              exact ih (q + 1) x_266 tm_248 lm_248 ym_259 gm_259 um_248 um_259 H _ ls (by omega) hF hI hJ hW hTh (by omega) (by omega) (by omega) (by omega) (by omega) hT hS (lv_sub hl [1, 2, 3, 4, 0] rfl)
            · have nc_265 := z_ne (zk (x := (-1)) (-1) rfl) rfl c_265
              exfalso; omega
        · rw [ht] at hT
          have hF : ∀ q, tm_250 q ≠ 0 → s.heap.size ≤ q := fun q h => hFc q (hMo.2 q h)
          have hJ := hJ.kp hKM hI.1
          have hW : IW (v 1) (v 2) (v 9) (ym_250 (a 89)) := by rw [hKM.fx hX (j := 89) (by decide) (by decide)]; exact hW
          have hTh : vb 38408 0 4800 (ym_250 (a 99)) := by rw [hKM.fx hX (j := 99) (by decide) (by decide)]; exact hTh
          have hX := hI.1
          refine lv_aload_n hx hb dL_law_876 rfl (lv_at hl 2 rfl) ?_
          refine lv_aload_n hx hb dL_law_877 rfl (lv_at hl 0 rfl) ?_
          refine lv_iload hx hb dL_law_878 (lv_at hl 4 rfl) ?_
          refine lv_iconst (v := 1) hx hb dL_law_880 (by decide) ?_
          refine lv_iadd hx hb dL_law_881 ?_
          refine lv_topi (fun x_267 ex_267 => ?_)
          have hx_267 := z_add ex_267 rfl (zk (x := 1) 1 rfl) (by omega) (by omega)
          refine va_sld hx hb hXs hbl hbA hS (z_in rfl (by omega) (by omega)) dL_law_882 ?_
          refine lq_top (v := s1) (by rw [hs1]; exact congrArg xs (by rw [z_nat (x := x_267) rfl]; omega)) ?_
          have hFc := tw_free hF hS hA
          refine va_calli (va_runV (As := [.int s1]) (rest := [.int r_247]) ⟨hx, hb, hml, hown, hts⟩ (m_as l dC dI ad av H.size a k tm_250 lm_250 ym_250 gm_250 v s1 hJ hW) (cwV 1 hts (gi_4 (im_law _ (List.mem_of_getElem? (i := 100) rfl)) (im_law _ (List.mem_of_getElem? (i := 101) rfl)) (im_law _ (List.mem_of_getElem? (i := 102) rfl)) (im_law _ (List.mem_of_getElem? (i := 7) rfl)) im_m_as gd_m_as) rfl rfl rfl (by decide +kernel) ⟨Nat.le_of_ble_eq_true rfl, Nat.le_of_ble_eq_true rfl⟩) ⟨pw_blind, tw_recv hK hT (fx_50 hX) (by decide) cl_e60 rfl, pw_use hT hK hFc hS hM⟩ rfl rfl hl.1 rfl (lv_room (Nat.le_of_ble_eq_true rfl)) dL_law_883 ⟨by show 200 + 4 * q + 0 + 0 ≤ 601024; omega, by show 60000 + 100 * q + 0 + 0 ≤ 7293034; omega⟩) hS (fun q _ h => hFc q h) hFc (fun r0 r_268 t H locs ht hvm hw hB hz1 hk1 hS => ?_)
          clear hvm hz1 hk1
          subst hw
          rcases hB with ⟨um_269, ym_269, gm_269, hre, hum_269, hgm_269, hggm_269, hJ, hf_270, hf_271, hT⟩ | ⟨um_272, ym_272, gm_272, hum_272, hgm_272, hggm_272, hJ, hf_273, hf_274, hf_275, hT⟩
          · refine lq_top (v := (-1)) hre ?_
            rw [ht] at hT
            have hI := hI.ag hgm_269 (by decide)
            have hI := hI.agg hggm_269
            have hW : IW (um_269 1) (um_269 2) (um_269 9) (ym_269 (a 89)) := by rw [hgm_269.at (fx_89 hX) (by decide)]; exact iw_u hW (hum_269 1 (by decide)) (hum_269 2 (by decide)) (hum_269 9 (by decide))
            have hTh : vb 38408 0 4800 (ym_269 (a 99)) := by rw [hgm_269.at (fx_99 hX) (by decide)]; exact hTh
            have : um_269 3 = v 3 := hum_269 3 (by decide)
            have : um_269 10 = v 10 := hum_269 10 (by decide)
            refine lv_icmp_eq (tgt := 1360) hx hb dL_law_886 (by decide) (fun c_276 => ?_) (fun c_276 => ?_)
            · have nc_276 := z_eq rfl (zk (x := (-1)) (-1) rfl) c_276
              obtain ⟨x_277, ex_277⟩ : ∃ y : Int32, y = i4 + Int32.ofInt 10 := ⟨_, rfl⟩
              have hx_277 := z_add ex_277 rfl (zk (x := Int32.ofInt 10) 10 rfl) (by omega) (by omega)
              refine lv_iinc (v := x_277) (lv' := [(4, .int x_277), (0, .ref b), (1, .ref (a 0)), (2, .ref (a 50)), (3, .ref (a 49))]) hx hb dL_law_1360 hl (k := 4) rfl ex_277.symm (by decide) rfl (fun ls hl => ?_)
              refine lv_goto (tgt := 23) hx hb dL_law_1363 (by decide) ?_
              refine W.widen (k := 200 + 4 * (q + 1)) (n := 60000 + 100 * (q + 1)) (by omega) (by omega) ?_
              exact ih (q + 1) x_277 tm_250 lm_250 ym_269 gm_269 um_250 um_269 H _ ls (by omega) hF hI hJ hW hTh (by omega) (by omega) (by omega) (by omega) (by omega) hT hS (lv_sub hl [1, 2, 3, 4, 0] rfl)
            · have nc_276 := z_ne rfl (zk (x := (-1)) (-1) rfl) c_276
              exfalso; omega
          · rw [ht] at hT
            have hI := hI.ag hgm_272 (by decide)
            have hI := hI.agg hggm_272
            have hW : IW (um_272 1) (um_272 2) (um_272 9) (ym_272 (a 89)) := by rw [hgm_272.at (fx_89 hX) (by decide)]; exact iw_u hW (hum_272 1 (by decide)) (hum_272 2 (by decide)) (hum_272 9 (by decide))
            have hTh : vb 38408 0 4800 (ym_272 (a 99)) := by rw [hgm_272.at (fx_99 hX) (by decide)]; exact hTh
            have : um_272 3 = v 3 := hum_272 3 (by decide)
            have : um_272 10 = v 10 := hum_272 10 (by decide)
            refine lv_icmp_eq (tgt := 1360) hx hb dL_law_886 (by decide) (fun c_278 => ?_) (fun c_278 => ?_)
            · have nc_278 := z_eq rfl rfl c_278
              obtain ⟨x_279, ex_279⟩ : ∃ y : Int32, y = i4 + Int32.ofInt 10 := ⟨_, rfl⟩
              have hx_279 := z_add ex_279 rfl (zk (x := Int32.ofInt 10) 10 rfl) (by omega) (by omega)
              refine lv_iinc (v := x_279) (lv' := [(4, .int x_279), (0, .ref b), (1, .ref (a 0)), (2, .ref (a 50)), (3, .ref (a 49))]) hx hb dL_law_1360 hl (k := 4) rfl ex_279.symm (by decide) rfl (fun ls hl => ?_)
              refine lv_goto (tgt := 23) hx hb dL_law_1363 (by decide) ?_
              refine W.widen (k := 200 + 4 * (q + 1)) (n := 60000 + 100 * (q + 1)) (by omega) (by omega) ?_
              exact ih (q + 1) x_279 tm_250 lm_250 ym_272 gm_272 um_250 um_272 H _ ls (by omega) hF hI hJ hW hTh (by omega) (by omega) (by omega) (by omega) (by omega) hT hS (lv_sub hl [1, 2, 3, 4, 0] rfl)
            · have nc_278 := z_ne rfl rfl c_278
              exfalso; omega
      · refine lq_top (v := 17) t_5 ?_
        have nt_5 := z_eq rfl (zk (x := 17) 17 rfl) t_5
        refine lv_tableIn (tgt := 891) hx hb dL_law_40 (by decide) (by decide) (off := 851) (by decide) (by decide) ?_
        refine lv_aload_n hx hb dL_law_891 rfl (lv_at hl 1 rfl) ?_
        refine lv_aload_n hx hb dL_law_892 rfl (lv_at hl 0 rfl) ?_
        refine lv_iload hx hb dL_law_893 (lv_at hl 4 rfl) ?_
        refine lv_iconst (v := 1) hx hb dL_law_895 (by decide) ?_
        refine lv_iadd hx hb dL_law_896 ?_
        refine lv_topi (fun x_280 ex_280 => ?_)
        have hx_280 := z_add ex_280 rfl (zk (x := 1) 1 rfl) (by omega) (by omega)
        refine va_sld hx hb hXs hbl hbA hS (z_in rfl (by omega) (by omega)) dL_law_897 ?_
        refine lq_top (v := s1) (by rw [hs1]; exact congrArg xs (by rw [z_nat (x := x_280) rfl]; omega)) ?_
        have hFc := tw_free hF hS hA
        refine va_calli (va_runV (As := [.int s1]) (rest := []) ⟨hx, hb, hml, hown, hts⟩ (c_fault l dC dI ad av H.size a k τ ln y g u s1 hI ) (cwV 1 hts (gi_4 (im_law _ (List.mem_of_getElem? (i := 103) rfl)) (im_law _ (List.mem_of_getElem? (i := 104) rfl)) (im_law _ (List.mem_of_getElem? (i := 105) rfl)) (im_law _ (List.mem_of_getElem? (i := 3) rfl)) im_c_fault gd_c_fault) rfl rfl rfl (by decide +kernel) ⟨Nat.le_of_ble_eq_true rfl, Nat.le_of_ble_eq_true rfl⟩) ⟨pw_blind, tw_recv hK hT (fx_0 hX) (by decide) cl_e10 rfl, pw_use hT hK hFc hS hM⟩ rfl rfl hl.1 rfl (lv_room (Nat.le_of_ble_eq_true rfl)) dL_law_898 ⟨by show 200 + 4 * q + 0 ≤ 601024; omega, by show 60000 + 100 * q + 0 ≤ 7293034; omega⟩) hS (fun q _ h => hFc q h) hFc (fun r0 r_281 t H locs ht hvm hw hB hz1 hk1 hS => ?_)
        clear hvm hz1 hk1
        subst hw
        obtain ⟨um_282, hum_282, ⟨tm_282, lm_282, ym_282, gm_282, hMo, hKM, hI, hT⟩⟩ := hB
        rw [ht] at hT
        have hF : ∀ q, tm_282 q ≠ 0 → s.heap.size ≤ q := fun q h => hFc q (hMo.2 q h)
        have hJ := hJ.kp hKM hI.1
        have hW : IW (v 1) (v 2) (v 9) (ym_282 (a 89)) := by rw [hKM.fx hX (j := 89) (by decide) (by decide)]; exact hW
        have hTh : vb 38408 0 4800 (ym_282 (a 99)) := by rw [hKM.fx hX (j := 99) (by decide) (by decide)]; exact hTh
        have hX := hI.1
        have : um_282 8 = u 8 := hum_282 8 (by decide)
        refine lv_pop hx hb dL_law_901 rfl ?_
        refine lv_aload_n hx hb dL_law_902 rfl (lv_at hl 2 rfl) ?_
        refine lv_aload_n hx hb dL_law_903 rfl (lv_at hl 0 rfl) ?_
        refine lv_iload hx hb dL_law_904 (lv_at hl 4 rfl) ?_
        refine lv_iconst (v := 1) hx hb dL_law_906 (by decide) ?_
        refine lv_iadd hx hb dL_law_907 ?_
        refine lv_topi (fun x_283 ex_283 => ?_)
        have hx_283 := z_add ex_283 rfl (zk (x := 1) 1 rfl) (by omega) (by omega)
        refine va_sld hx hb hXs hbl hbA hS (z_in rfl (by omega) (by omega)) dL_law_908 ?_
        refine lq_top (v := s1) (by rw [hs1]; exact congrArg xs (by rw [z_nat (x := x_283) rfl]; omega)) ?_
        have hFc := tw_free hF hS hA
        refine va_calli (va_runV (As := [.int s1]) (rest := []) ⟨hx, hb, hml, hown, hts⟩ (m_fault l dC dI ad av H.size a k tm_282 lm_282 ym_282 gm_282 v s1 hJ hW) (cwV 1 hts (gi_4 (im_law _ (List.mem_of_getElem? (i := 106) rfl)) (im_law _ (List.mem_of_getElem? (i := 107) rfl)) (im_law _ (List.mem_of_getElem? (i := 108) rfl)) (im_law _ (List.mem_of_getElem? (i := 7) rfl)) im_m_fault gd_m_fault) rfl rfl rfl (by decide +kernel) ⟨Nat.le_of_ble_eq_true rfl, Nat.le_of_ble_eq_true rfl⟩) ⟨pw_blind, tw_recv hK hT (fx_50 hX) (by decide) cl_e60 rfl, pw_use hT hK hFc hS hM⟩ rfl rfl hl.1 rfl (lv_room (Nat.le_of_ble_eq_true rfl)) dL_law_909 ⟨by show 200 + 4 * q + 0 + 0 ≤ 601024; omega, by show 60000 + 100 * q + 0 + 0 ≤ 7293034; omega⟩) hS (fun q _ h => hFc q h) hFc (fun r0 r_284 t H locs ht hvm hw hB hz1 hk1 hS => ?_)
        clear hvm hz1 hk1
        subst hw
        obtain ⟨ym_285, gm_285, hgm_285, hggm_285, hJ, hT⟩ := hB
        rw [ht] at hT
        have hI := hI.ag hgm_285 (by decide)
        have hI := hI.agg hggm_285
        have hW : IW (v 1) (v 2) (v 9) (ym_285 (a 89)) := by rw [hgm_285.at (fx_89 hX) (by decide)]; exact hW
        have hTh : vb 38408 0 4800 (ym_285 (a 99)) := by rw [hgm_285.at (fx_99 hX) (by decide)]; exact hTh
        refine lv_pop hx hb dL_law_912 rfl ?_
        refine lv_goto (tgt := 1360) hx hb dL_law_913 (by decide) ?_
        obtain ⟨x_286, ex_286⟩ : ∃ y : Int32, y = i4 + Int32.ofInt 10 := ⟨_, rfl⟩
        have hx_286 := z_add ex_286 rfl (zk (x := Int32.ofInt 10) 10 rfl) (by omega) (by omega)
        refine lv_iinc (v := x_286) (lv' := [(4, .int x_286), (0, .ref b), (1, .ref (a 0)), (2, .ref (a 50)), (3, .ref (a 49))]) hx hb dL_law_1360 hl (k := 4) rfl ex_286.symm (by decide) rfl (fun ls hl => ?_)
        refine lv_goto (tgt := 23) hx hb dL_law_1363 (by decide) ?_
        refine W.widen (k := 200 + 4 * (q + 1)) (n := 60000 + 100 * (q + 1)) (by omega) (by omega) ?_
        exact ih (q + 1) x_286 tm_282 lm_282 ym_285 gm_285 um_282 v H _ ls (by omega) hF hI hJ hW hTh (by omega) (by omega) (by omega) (by omega) (by omega) hT hS (lv_sub hl [1, 2, 3, 4, 0] rfl)
      · refine lq_top (v := 18) t_5 ?_
        have nt_5 := z_eq rfl (zk (x := 18) 18 rfl) t_5
        refine lv_tableIn (tgt := 916) hx hb dL_law_40 (by decide) (by decide) (off := 876) (by decide) (by decide) ?_
        refine lv_aload_n hx hb dL_law_916 rfl (lv_at hl 1 rfl) ?_
        refine lv_aload_n hx hb dL_law_917 rfl (lv_at hl 0 rfl) ?_
        refine lv_iload hx hb dL_law_918 (lv_at hl 4 rfl) ?_
        refine lv_iconst (v := 1) hx hb dL_law_920 (by decide) ?_
        refine lv_iadd hx hb dL_law_921 ?_
        refine lv_topi (fun x_287 ex_287 => ?_)
        have hx_287 := z_add ex_287 rfl (zk (x := 1) 1 rfl) (by omega) (by omega)
        refine va_sld hx hb hXs hbl hbA hS (z_in rfl (by omega) (by omega)) dL_law_922 ?_
        refine lq_top (v := s1) (by rw [hs1]; exact congrArg xs (by rw [z_nat (x := x_287) rfl]; omega)) ?_
        refine lv_aload_n hx hb dL_law_923 rfl (lv_at hl 0 rfl) ?_
        refine lv_iload hx hb dL_law_924 (lv_at hl 4 rfl) ?_
        refine lv_iconst (v := 2) hx hb dL_law_926 (by decide) ?_
        refine lv_iadd hx hb dL_law_927 ?_
        refine lv_topi (fun x_288 ex_288 => ?_)
        have hx_288 := z_add ex_288 rfl (zk (x := 2) 2 rfl) (by omega) (by omega)
        refine va_sld hx hb hXs hbl hbA hS (z_in rfl (by omega) (by omega)) dL_law_928 ?_
        refine lq_top (v := s2) (by rw [hs2]; exact congrArg xs (by rw [z_nat (x := x_288) rfl]; omega)) ?_
        have hFc := tw_free hF hS hA
        refine va_calli (va_runV (As := [.int s1, .int s2]) (rest := []) ⟨hx, hb, hml, hown, hts⟩ (c_faults l dC dI ad av H.size a k τ ln y g u s1 s2 hI ) (cwV 2 hts (gi_4 (im_law _ (List.mem_of_getElem? (i := 109) rfl)) (im_law _ (List.mem_of_getElem? (i := 110) rfl)) (im_law _ (List.mem_of_getElem? (i := 111) rfl)) (im_law _ (List.mem_of_getElem? (i := 3) rfl)) im_c_faults gd_c_faults) rfl rfl rfl (by decide +kernel) ⟨Nat.le_of_ble_eq_true rfl, Nat.le_of_ble_eq_true rfl⟩) ⟨pw_blind, tw_recv hK hT (fx_0 hX) (by decide) cl_e10 rfl, pw_use hT hK hFc hS hM⟩ rfl rfl hl.1 rfl (lv_room (Nat.le_of_ble_eq_true rfl)) dL_law_929 ⟨by show 200 + 4 * q + 0 ≤ 601024; omega, by show 60000 + 100 * q + 0 ≤ 7293034; omega⟩) hS (fun q _ h => hFc q h) hFc (fun r0 r_289 t H locs ht hvm hw hB hz1 hk1 hS => ?_)
        clear hvm hz1 hk1
        subst hw
        obtain ⟨um_290, hum_290, ⟨tm_290, lm_290, ym_290, gm_290, hMo, hKM, hI, hT⟩⟩ := hB
        rw [ht] at hT
        have hF : ∀ q, tm_290 q ≠ 0 → s.heap.size ≤ q := fun q h => hFc q (hMo.2 q h)
        have hJ := hJ.kp hKM hI.1
        have hW : IW (v 1) (v 2) (v 9) (ym_290 (a 89)) := by rw [hKM.fx hX (j := 89) (by decide) (by decide)]; exact hW
        have hTh : vb 38408 0 4800 (ym_290 (a 99)) := by rw [hKM.fx hX (j := 99) (by decide) (by decide)]; exact hTh
        have hX := hI.1
        have : um_290 8 = u 8 := hum_290 8 (by decide)
        refine lv_pop hx hb dL_law_932 rfl ?_
        refine lv_aload_n hx hb dL_law_933 rfl (lv_at hl 2 rfl) ?_
        refine lv_aload_n hx hb dL_law_934 rfl (lv_at hl 0 rfl) ?_
        refine lv_iload hx hb dL_law_935 (lv_at hl 4 rfl) ?_
        refine lv_iconst (v := 1) hx hb dL_law_937 (by decide) ?_
        refine lv_iadd hx hb dL_law_938 ?_
        refine lv_topi (fun x_291 ex_291 => ?_)
        have hx_291 := z_add ex_291 rfl (zk (x := 1) 1 rfl) (by omega) (by omega)
        refine va_sld hx hb hXs hbl hbA hS (z_in rfl (by omega) (by omega)) dL_law_939 ?_
        refine lq_top (v := s1) (by rw [hs1]; exact congrArg xs (by rw [z_nat (x := x_291) rfl]; omega)) ?_
        refine lv_aload_n hx hb dL_law_940 rfl (lv_at hl 0 rfl) ?_
        refine lv_iload hx hb dL_law_941 (lv_at hl 4 rfl) ?_
        refine lv_iconst (v := 2) hx hb dL_law_943 (by decide) ?_
        refine lv_iadd hx hb dL_law_944 ?_
        refine lv_topi (fun x_292 ex_292 => ?_)
        have hx_292 := z_add ex_292 rfl (zk (x := 2) 2 rfl) (by omega) (by omega)
        refine va_sld hx hb hXs hbl hbA hS (z_in rfl (by omega) (by omega)) dL_law_945 ?_
        refine lq_top (v := s2) (by rw [hs2]; exact congrArg xs (by rw [z_nat (x := x_292) rfl]; omega)) ?_
        have hFc := tw_free hF hS hA
        refine va_calli (va_runV (As := [.int s1, .int s2]) (rest := []) ⟨hx, hb, hml, hown, hts⟩ (m_faults l dC dI ad av H.size a k tm_290 lm_290 ym_290 gm_290 v s1 s2 hJ hW) (cwV 2 hts (gi_4 (im_law _ (List.mem_of_getElem? (i := 112) rfl)) (im_law _ (List.mem_of_getElem? (i := 113) rfl)) (im_law _ (List.mem_of_getElem? (i := 114) rfl)) (im_law _ (List.mem_of_getElem? (i := 7) rfl)) im_m_faults gd_m_faults) rfl rfl rfl (by decide +kernel) ⟨Nat.le_of_ble_eq_true rfl, Nat.le_of_ble_eq_true rfl⟩) ⟨pw_blind, tw_recv hK hT (fx_50 hX) (by decide) cl_e60 rfl, pw_use hT hK hFc hS hM⟩ rfl rfl hl.1 rfl (lv_room (Nat.le_of_ble_eq_true rfl)) dL_law_946 ⟨by show 200 + 4 * q + 0 + 0 ≤ 601024; omega, by show 60000 + 100 * q + 0 + 0 ≤ 7293034; omega⟩) hS (fun q _ h => hFc q h) hFc (fun r0 r_293 t H locs ht hvm hw hB hz1 hk1 hS => ?_)
        clear hvm hz1 hk1
        subst hw
        obtain ⟨ym_294, gm_294, hgm_294, hggm_294, hJ, hT⟩ := hB
        rw [ht] at hT
        have hI := hI.ag hgm_294 (by decide)
        have hI := hI.agg hggm_294
        have hW : IW (v 1) (v 2) (v 9) (ym_294 (a 89)) := by rw [hgm_294.at (fx_89 hX) (by decide)]; exact hW
        have hTh : vb 38408 0 4800 (ym_294 (a 99)) := by rw [hgm_294.at (fx_99 hX) (by decide)]; exact hTh
        refine lv_pop hx hb dL_law_949 rfl ?_
        refine lv_goto (tgt := 1360) hx hb dL_law_950 (by decide) ?_
        obtain ⟨x_295, ex_295⟩ : ∃ y : Int32, y = i4 + Int32.ofInt 10 := ⟨_, rfl⟩
        have hx_295 := z_add ex_295 rfl (zk (x := Int32.ofInt 10) 10 rfl) (by omega) (by omega)
        refine lv_iinc (v := x_295) (lv' := [(4, .int x_295), (0, .ref b), (1, .ref (a 0)), (2, .ref (a 50)), (3, .ref (a 49))]) hx hb dL_law_1360 hl (k := 4) rfl ex_295.symm (by decide) rfl (fun ls hl => ?_)
        refine lv_goto (tgt := 23) hx hb dL_law_1363 (by decide) ?_
        refine W.widen (k := 200 + 4 * (q + 1)) (n := 60000 + 100 * (q + 1)) (by omega) (by omega) ?_
        exact ih (q + 1) x_295 tm_290 lm_290 ym_294 gm_294 um_290 v H _ ls (by omega) hF hI hJ hW hTh (by omega) (by omega) (by omega) (by omega) (by omega) hT hS (lv_sub hl [1, 2, 3, 4, 0] rfl)
      · refine lq_top (v := 19) t_5 ?_
        have nt_5 := z_eq rfl (zk (x := 19) 19 rfl) t_5
        refine lv_tableIn (tgt := 953) hx hb dL_law_40 (by decide) (by decide) (off := 913) (by decide) (by decide) ?_
        refine lv_aload_n hx hb dL_law_953 rfl (lv_at hl 1 rfl) ?_
        refine lv_aload_n hx hb dL_law_954 rfl (lv_at hl 0 rfl) ?_
        refine lv_iload hx hb dL_law_955 (lv_at hl 4 rfl) ?_
        refine lv_iconst (v := 1) hx hb dL_law_957 (by decide) ?_
        refine lv_iadd hx hb dL_law_958 ?_
        refine lv_topi (fun x_296 ex_296 => ?_)
        have hx_296 := z_add ex_296 rfl (zk (x := 1) 1 rfl) (by omega) (by omega)
        refine va_sld hx hb hXs hbl hbA hS (z_in rfl (by omega) (by omega)) dL_law_959 ?_
        refine lq_top (v := s1) (by rw [hs1]; exact congrArg xs (by rw [z_nat (x := x_296) rfl]; omega)) ?_
        refine lv_aload_n hx hb dL_law_960 rfl (lv_at hl 3 rfl) ?_
        have hFc := tw_free hF hS hA
        refine va_calli (vx_runSW (As := [.ref (a 0), .int s1, .ref (a 49)]) (rest := []) ⟨hx, hb, hml, hown, hts⟩ (k_pay l hst dC dI ad av H.size a k τ ln y g u s1 hI ) (vx_cwSW 3 hts (gi_3 (im_law _ (List.mem_of_getElem? (i := 115) rfl)) (im_law _ (List.mem_of_getElem? (i := 116) rfl)) (im_law _ (List.mem_of_getElem? (i := 52) rfl)) im_k_pay gd_k_pay) rfl rfl rfl (by decide +kernel) ⟨Nat.le_of_ble_eq_true rfl, Nat.le_of_ble_eq_true rfl⟩) ⟨pw_blind, pw_use hT hK hFc hS hM⟩ rfl rfl hl.1 rfl (lv_room (Nat.le_of_ble_eq_true rfl)) dL_law_961 ⟨by show 200 + 4 * q + 1 ≤ 601024; omega, by show 60000 + 100 * q + 6 ≤ 7293034; omega⟩) hS (fun q _ h => hFc q h) hFc (fun r0 r_297 t H locs ht hvm hw hB hz1 hk1 hS => ?_)
        clear hvm hz1 hk1
        subst hw
        obtain ⟨um_298, hum_298, ⟨tm_298, lm_298, ym_298, gm_298, hMo, hKM, hI, hT⟩⟩ := hB
        rw [ht] at hT
        have hF : ∀ q, tm_298 q ≠ 0 → s.heap.size ≤ q := fun q h => hFc q (hMo.2 q h)
        have hJ := hJ.kp hKM hI.1
        have hW : IW (v 1) (v 2) (v 9) (ym_298 (a 89)) := by rw [hKM.fx hX (j := 89) (by decide) (by decide)]; exact hW
        have hTh : vb 38408 0 4800 (ym_298 (a 99)) := by rw [hKM.fx hX (j := 99) (by decide) (by decide)]; exact hTh
        have hX := hI.1
        have : um_298 8 = u 8 := hum_298 8 (by decide)
        refine lv_istore (lv' := [(5, .int r_297), (0, .ref b), (1, .ref (a 0)), (2, .ref (a 50)), (3, .ref (a 49)), (4, .int i4)]) hx hb dL_law_964 hl (by decide) rfl (fun ls hl => ?_)
        refine lv_aload_n hx hb dL_law_966 rfl (lv_at hl 3 rfl) ?_
        refine lv_aload_n hx hb dL_law_967 rfl (lv_at hl 1 rfl) ?_
        refine lv_iload hx hb dL_law_968 (lv_at hl 5 rfl) ?_
        refine lv_iconst (v := 1) hx hb dL_law_970 (by decide) ?_
        refine lv_iadd hx hb dL_law_971 ?_
        refine lv_topi (fun x_299 ex_299 => ?_)
        have hx_299 := z_add ex_299 rfl (zk (x := 1) 1 rfl) (by omega) (by omega)
        refine va_sld hx hb hXs hbl hbA hS (z_in rfl (by omega) (by omega)) dL_law_972 ?_
        refine lq_top (v := s1) (by rw [hs1]; exact congrArg xs (by rw [z_nat (x := x_299) rfl]; omega)) ?_
        have hFc := tw_free hF hS hA
        refine va_calli (va_runV (As := [.int s1]) (rest := []) ⟨hx, hb, hml, hown, hts⟩ (m_pay l dC dI ad av H.size a k tm_298 lm_298 ym_298 gm_298 v s1 hJ hW) (cwV 1 hts (gi_4 (im_law _ (List.mem_of_getElem? (i := 117) rfl)) (im_law _ (List.mem_of_getElem? (i := 118) rfl)) (im_law _ (List.mem_of_getElem? (i := 119) rfl)) (im_law _ (List.mem_of_getElem? (i := 7) rfl)) im_m_pay gd_m_pay) rfl rfl rfl (by decide +kernel) ⟨Nat.le_of_ble_eq_true rfl, Nat.le_of_ble_eq_true rfl⟩) ⟨pw_blind, tw_recv hK hT (fx_50 hX) (by decide) cl_e60 rfl, pw_use hT hK hFc hS hM⟩ rfl rfl hl.1 rfl (lv_room (Nat.le_of_ble_eq_true rfl)) dL_law_973 ⟨by show 200 + 4 * q + 1 + 0 ≤ 601024; omega, by show 60000 + 100 * q + 6 + 0 ≤ 7293034; omega⟩) hS (fun q _ h => hFc q h) hFc (fun r0 r_300 t H locs ht hvm hw hB hz1 hk1 hS => ?_)
        clear hvm hz1 hk1
        subst hw
        obtain ⟨ym_301, gm_301, hgm_301, hggm_301, hJ, hT⟩ := hB
        rw [ht] at hT
        have hI := hI.ag hgm_301 (by decide)
        have hI := hI.agg hggm_301
        have hW : IW (v 1) (v 2) (v 9) (ym_301 (a 89)) := by rw [hgm_301.at (fx_89 hX) (by decide)]; exact hW
        have hTh : vb 38408 0 4800 (ym_301 (a 99)) := by rw [hgm_301.at (fx_99 hX) (by decide)]; exact hTh
        refine lv_istore (lv' := [(6, .int r_300), (5, .int r_297), (0, .ref b), (1, .ref (a 0)), (2, .ref (a 50)), (3, .ref (a 49)), (4, .int i4)]) hx hb dL_law_976 hl (by decide) rfl (fun ls hl => ?_)
        refine lv_goto (tgt := 1360) hx hb dL_law_978 (by decide) ?_
        obtain ⟨x_302, ex_302⟩ : ∃ y : Int32, y = i4 + Int32.ofInt 10 := ⟨_, rfl⟩
        have hx_302 := z_add ex_302 rfl (zk (x := Int32.ofInt 10) 10 rfl) (by omega) (by omega)
        refine lv_iinc (v := x_302) (lv' := [(4, .int x_302), (6, .int r_300), (5, .int r_297), (0, .ref b), (1, .ref (a 0)), (2, .ref (a 50)), (3, .ref (a 49))]) hx hb dL_law_1360 hl (k := 6) rfl ex_302.symm (by decide) rfl (fun ls hl => ?_)
        refine lv_goto (tgt := 23) hx hb dL_law_1363 (by decide) ?_
        refine W.widen (k := 200 + 4 * (q + 1)) (n := 60000 + 100 * (q + 1)) (by omega) (by omega) ?_
        exact ih (q + 1) x_302 tm_298 lm_298 ym_301 gm_301 um_298 v H _ ls (by omega) hF hI hJ hW hTh (by omega) (by omega) (by omega) (by omega) (by omega) hT hS (lv_sub hl [3, 4, 5, 6, 0] rfl)
      · refine lq_top (v := 20) t_5 ?_
        have nt_5 := z_eq rfl (zk (x := 20) 20 rfl) t_5
        refine lv_tableIn (tgt := 981) hx hb dL_law_40 (by decide) (by decide) (off := 941) (by decide) (by decide) ?_
        refine lv_aload_n hx hb dL_law_981 rfl (lv_at hl 1 rfl) ?_
        refine lv_aload_n hx hb dL_law_982 rfl (lv_at hl 0 rfl) ?_
        refine lv_iload hx hb dL_law_983 (lv_at hl 4 rfl) ?_
        refine lv_iconst (v := 1) hx hb dL_law_985 (by decide) ?_
        refine lv_iadd hx hb dL_law_986 ?_
        refine lv_topi (fun x_303 ex_303 => ?_)
        have hx_303 := z_add ex_303 rfl (zk (x := 1) 1 rfl) (by omega) (by omega)
        refine va_sld hx hb hXs hbl hbA hS (z_in rfl (by omega) (by omega)) dL_law_987 ?_
        refine lq_top (v := s1) (by rw [hs1]; exact congrArg xs (by rw [z_nat (x := x_303) rfl]; omega)) ?_
        refine lv_aload_n hx hb dL_law_988 rfl (lv_at hl 0 rfl) ?_
        refine lv_iload hx hb dL_law_989 (lv_at hl 4 rfl) ?_
        refine lv_iconst (v := 2) hx hb dL_law_991 (by decide) ?_
        refine lv_iadd hx hb dL_law_992 ?_
        refine lv_topi (fun x_304 ex_304 => ?_)
        have hx_304 := z_add ex_304 rfl (zk (x := 2) 2 rfl) (by omega) (by omega)
        refine va_sld hx hb hXs hbl hbA hS (z_in rfl (by omega) (by omega)) dL_law_993 ?_
        refine lq_top (v := s2) (by rw [hs2]; exact congrArg xs (by rw [z_nat (x := x_304) rfl]; omega)) ?_
        refine lv_aload_n hx hb dL_law_994 rfl (lv_at hl 3 rfl) ?_
        have hFc := tw_free hF hS hA
        refine va_calli (vx_runSW (As := [.ref (a 0), .int s1, .int s2, .ref (a 49)]) (rest := []) ⟨hx, hb, hml, hown, hts⟩ (k_earns l hst dC dI ad av H.size a k τ ln y g u s1 s2 hI ) (vx_cwSW 4 hts (gi_3 (im_law _ (List.mem_of_getElem? (i := 120) rfl)) (im_law _ (List.mem_of_getElem? (i := 121) rfl)) (im_law _ (List.mem_of_getElem? (i := 52) rfl)) im_k_earns gd_k_earns) rfl rfl rfl (by decide +kernel) ⟨Nat.le_of_ble_eq_true rfl, Nat.le_of_ble_eq_true rfl⟩) ⟨pw_blind, pw_use hT hK hFc hS hM⟩ rfl rfl hl.1 rfl (lv_room (Nat.le_of_ble_eq_true rfl)) dL_law_995 ⟨by show 200 + 4 * q + 1 ≤ 601024; omega, by show 60000 + 100 * q + 6 ≤ 7293034; omega⟩) hS (fun q _ h => hFc q h) hFc (fun r0 r_305 t H locs ht hvm hw hB hz1 hk1 hS => ?_)
        clear hvm hz1 hk1
        subst hw
        obtain ⟨um_306, hum_306, ⟨tm_306, lm_306, ym_306, gm_306, hMo, hKM, hI, hT⟩⟩ := hB
        rw [ht] at hT
        have hF : ∀ q, tm_306 q ≠ 0 → s.heap.size ≤ q := fun q h => hFc q (hMo.2 q h)
        have hJ := hJ.kp hKM hI.1
        have hW : IW (v 1) (v 2) (v 9) (ym_306 (a 89)) := by rw [hKM.fx hX (j := 89) (by decide) (by decide)]; exact hW
        have hTh : vb 38408 0 4800 (ym_306 (a 99)) := by rw [hKM.fx hX (j := 99) (by decide) (by decide)]; exact hTh
        have hX := hI.1
        have : um_306 8 = u 8 := hum_306 8 (by decide)
        refine lv_istore (lv' := [(5, .int r_305), (0, .ref b), (1, .ref (a 0)), (2, .ref (a 50)), (3, .ref (a 49)), (4, .int i4)]) hx hb dL_law_998 hl (by decide) rfl (fun ls hl => ?_)
        refine lv_aload_n hx hb dL_law_1000 rfl (lv_at hl 3 rfl) ?_
        refine lv_aload_n hx hb dL_law_1001 rfl (lv_at hl 1 rfl) ?_
        refine lv_iload hx hb dL_law_1002 (lv_at hl 5 rfl) ?_
        refine lv_iconst (v := 1) hx hb dL_law_1004 (by decide) ?_
        refine lv_iadd hx hb dL_law_1005 ?_
        refine lv_topi (fun x_307 ex_307 => ?_)
        have hx_307 := z_add ex_307 rfl (zk (x := 1) 1 rfl) (by omega) (by omega)
        refine va_sld hx hb hXs hbl hbA hS (z_in rfl (by omega) (by omega)) dL_law_1006 ?_
        refine lq_top (v := s1) (by rw [hs1]; exact congrArg xs (by rw [z_nat (x := x_307) rfl]; omega)) ?_
        refine lv_aload_n hx hb dL_law_1007 rfl (lv_at hl 1 rfl) ?_
        refine lv_iload hx hb dL_law_1008 (lv_at hl 5 rfl) ?_
        refine lv_iconst (v := 2) hx hb dL_law_1010 (by decide) ?_
        refine lv_iadd hx hb dL_law_1011 ?_
        refine lv_topi (fun x_308 ex_308 => ?_)
        have hx_308 := z_add ex_308 rfl (zk (x := 2) 2 rfl) (by omega) (by omega)
        refine va_sld hx hb hXs hbl hbA hS (z_in rfl (by omega) (by omega)) dL_law_1012 ?_
        refine lq_top (v := s2) (by rw [hs2]; exact congrArg xs (by rw [z_nat (x := x_308) rfl]; omega)) ?_
        have hFc := tw_free hF hS hA
        refine va_calli (va_runV (As := [.int s1, .int s2]) (rest := []) ⟨hx, hb, hml, hown, hts⟩ (m_earns l dC dI ad av H.size a k tm_306 lm_306 ym_306 gm_306 v s1 s2 hJ hW) (cwV 2 hts (gi_4 (im_law _ (List.mem_of_getElem? (i := 122) rfl)) (im_law _ (List.mem_of_getElem? (i := 123) rfl)) (im_law _ (List.mem_of_getElem? (i := 124) rfl)) (im_law _ (List.mem_of_getElem? (i := 7) rfl)) im_m_earns gd_m_earns) rfl rfl rfl (by decide +kernel) ⟨Nat.le_of_ble_eq_true rfl, Nat.le_of_ble_eq_true rfl⟩) ⟨pw_blind, tw_recv hK hT (fx_50 hX) (by decide) cl_e60 rfl, pw_use hT hK hFc hS hM⟩ rfl rfl hl.1 rfl (lv_room (Nat.le_of_ble_eq_true rfl)) dL_law_1013 ⟨by show 200 + 4 * q + 1 + 0 ≤ 601024; omega, by show 60000 + 100 * q + 6 + 0 ≤ 7293034; omega⟩) hS (fun q _ h => hFc q h) hFc (fun r0 r_309 t H locs ht hvm hw hB hz1 hk1 hS => ?_)
        clear hvm hz1 hk1
        subst hw
        obtain ⟨ym_310, gm_310, hgm_310, hggm_310, hJ, hT⟩ := hB
        rw [ht] at hT
        have hI := hI.ag hgm_310 (by decide)
        have hI := hI.agg hggm_310
        have hW : IW (v 1) (v 2) (v 9) (ym_310 (a 89)) := by rw [hgm_310.at (fx_89 hX) (by decide)]; exact hW
        have hTh : vb 38408 0 4800 (ym_310 (a 99)) := by rw [hgm_310.at (fx_99 hX) (by decide)]; exact hTh
        refine lv_istore (lv' := [(6, .int r_309), (5, .int r_305), (0, .ref b), (1, .ref (a 0)), (2, .ref (a 50)), (3, .ref (a 49)), (4, .int i4)]) hx hb dL_law_1016 hl (by decide) rfl (fun ls hl => ?_)
        refine lv_goto (tgt := 1360) hx hb dL_law_1018 (by decide) ?_
        obtain ⟨x_311, ex_311⟩ : ∃ y : Int32, y = i4 + Int32.ofInt 10 := ⟨_, rfl⟩
        have hx_311 := z_add ex_311 rfl (zk (x := Int32.ofInt 10) 10 rfl) (by omega) (by omega)
        refine lv_iinc (v := x_311) (lv' := [(4, .int x_311), (6, .int r_309), (5, .int r_305), (0, .ref b), (1, .ref (a 0)), (2, .ref (a 50)), (3, .ref (a 49))]) hx hb dL_law_1360 hl (k := 6) rfl ex_311.symm (by decide) rfl (fun ls hl => ?_)
        refine lv_goto (tgt := 23) hx hb dL_law_1363 (by decide) ?_
        refine W.widen (k := 200 + 4 * (q + 1)) (n := 60000 + 100 * (q + 1)) (by omega) (by omega) ?_
        exact ih (q + 1) x_311 tm_306 lm_306 ym_310 gm_310 um_306 v H _ ls (by omega) hF hI hJ hW hTh (by omega) (by omega) (by omega) (by omega) (by omega) hT hS (lv_sub hl [3, 4, 5, 6, 0] rfl)
      · refine lq_top (v := 21) t_5 ?_
        have nt_5 := z_eq rfl (zk (x := 21) 21 rfl) t_5
        refine lv_tableIn (tgt := 1021) hx hb dL_law_40 (by decide) (by decide) (off := 981) (by decide) (by decide) ?_
        refine lv_aload_n hx hb dL_law_1021 rfl (lv_at hl 1 rfl) ?_
        refine lv_aload_n hx hb dL_law_1022 rfl (lv_at hl 0 rfl) ?_
        refine lv_iload hx hb dL_law_1023 (lv_at hl 4 rfl) ?_
        refine lv_iconst (v := 1) hx hb dL_law_1025 (by decide) ?_
        refine lv_iadd hx hb dL_law_1026 ?_
        refine lv_topi (fun x_312 ex_312 => ?_)
        have hx_312 := z_add ex_312 rfl (zk (x := 1) 1 rfl) (by omega) (by omega)
        refine va_sld hx hb hXs hbl hbA hS (z_in rfl (by omega) (by omega)) dL_law_1027 ?_
        refine lq_top (v := s1) (by rw [hs1]; exact congrArg xs (by rw [z_nat (x := x_312) rfl]; omega)) ?_
        refine lv_aload_n hx hb dL_law_1028 rfl (lv_at hl 0 rfl) ?_
        refine lv_iload hx hb dL_law_1029 (lv_at hl 4 rfl) ?_
        refine lv_iconst (v := 2) hx hb dL_law_1031 (by decide) ?_
        refine lv_iadd hx hb dL_law_1032 ?_
        refine lv_topi (fun x_313 ex_313 => ?_)
        have hx_313 := z_add ex_313 rfl (zk (x := 2) 2 rfl) (by omega) (by omega)
        refine va_sld hx hb hXs hbl hbA hS (z_in rfl (by omega) (by omega)) dL_law_1033 ?_
        refine lq_top (v := s2) (by rw [hs2]; exact congrArg xs (by rw [z_nat (x := x_313) rfl]; omega)) ?_
        refine lv_aload_n hx hb dL_law_1034 rfl (lv_at hl 0 rfl) ?_
        refine lv_iload hx hb dL_law_1035 (lv_at hl 4 rfl) ?_
        refine lv_iconst (v := 3) hx hb dL_law_1037 (by decide) ?_
        refine lv_iadd hx hb dL_law_1038 ?_
        refine lv_topi (fun x_314 ex_314 => ?_)
        have hx_314 := z_add ex_314 rfl (zk (x := 3) 3 rfl) (by omega) (by omega)
        refine va_sld hx hb hXs hbl hbA hS (z_in rfl (by omega) (by omega)) dL_law_1039 ?_
        refine lq_top (v := s3) (by rw [hs3]; exact congrArg xs (by rw [z_nat (x := x_314) rfl]; omega)) ?_
        have hFc := tw_free hF hS hA
        refine va_calli (va_runV (As := [.int s1, .int s2, .int s3]) (rest := []) ⟨hx, hb, hml, hown, hts⟩ (c_slips l dC dI ad av H.size a k τ ln y g u s1 s2 s3 hI ) (cwV 3 hts (gi_4 (im_law _ (List.mem_of_getElem? (i := 125) rfl)) (im_law _ (List.mem_of_getElem? (i := 126) rfl)) (im_law _ (List.mem_of_getElem? (i := 127) rfl)) (im_law _ (List.mem_of_getElem? (i := 3) rfl)) im_c_slips gd_c_slips) rfl rfl rfl (by decide +kernel) ⟨Nat.le_of_ble_eq_true rfl, Nat.le_of_ble_eq_true rfl⟩) ⟨pw_blind, tw_recv hK hT (fx_0 hX) (by decide) cl_e10 rfl, pw_use hT hK hFc hS hM⟩ rfl rfl hl.1 rfl (lv_room (Nat.le_of_ble_eq_true rfl)) dL_law_1040 ⟨by show 200 + 4 * q + 0 ≤ 601024; omega, by show 60000 + 100 * q + 0 ≤ 7293034; omega⟩) hS (fun q _ h => hFc q h) hFc (fun r0 r_315 t H locs ht hvm hw hB hz1 hk1 hS => ?_)
        clear hvm hz1 hk1
        subst hw
        rcases hB with ⟨um_316, hre, hum_316, ⟨tm_316, lm_316, ym_316, gm_316, hMo, hKM, hI, hT⟩⟩ | ⟨um_317, hre, hum_317, ⟨tm_317, lm_317, ym_317, gm_317, hMo, hKM, hI, hT⟩⟩
        · refine lq_top (v := 1) hre ?_
          rw [ht] at hT
          have hF : ∀ q, tm_316 q ≠ 0 → s.heap.size ≤ q := fun q h => hFc q (hMo.2 q h)
          have hJ := hJ.kp hKM hI.1
          have hW : IW (v 1) (v 2) (v 9) (ym_316 (a 89)) := by rw [hKM.fx hX (j := 89) (by decide) (by decide)]; exact hW
          have hTh : vb 38408 0 4800 (ym_316 (a 99)) := by rw [hKM.fx hX (j := 99) (by decide) (by decide)]; exact hTh
          have hX := hI.1
          have : um_316 8 = u 8 := hum_316 8 (by decide)
          refine lv_pop hx hb dL_law_1043 rfl ?_
          refine lv_aload_n hx hb dL_law_1044 rfl (lv_at hl 2 rfl) ?_
          refine lv_aload_n hx hb dL_law_1045 rfl (lv_at hl 0 rfl) ?_
          refine lv_iload hx hb dL_law_1046 (lv_at hl 4 rfl) ?_
          refine lv_iconst (v := 1) hx hb dL_law_1048 (by decide) ?_
          refine lv_iadd hx hb dL_law_1049 ?_
          refine lv_topi (fun x_318 ex_318 => ?_)
          have hx_318 := z_add ex_318 rfl (zk (x := 1) 1 rfl) (by omega) (by omega)
          refine va_sld hx hb hXs hbl hbA hS (z_in rfl (by omega) (by omega)) dL_law_1050 ?_
          refine lq_top (v := s1) (by rw [hs1]; exact congrArg xs (by rw [z_nat (x := x_318) rfl]; omega)) ?_
          refine lv_aload_n hx hb dL_law_1051 rfl (lv_at hl 0 rfl) ?_
          refine lv_iload hx hb dL_law_1052 (lv_at hl 4 rfl) ?_
          refine lv_iconst (v := 2) hx hb dL_law_1054 (by decide) ?_
          refine lv_iadd hx hb dL_law_1055 ?_
          refine lv_topi (fun x_319 ex_319 => ?_)
          have hx_319 := z_add ex_319 rfl (zk (x := 2) 2 rfl) (by omega) (by omega)
          refine va_sld hx hb hXs hbl hbA hS (z_in rfl (by omega) (by omega)) dL_law_1056 ?_
          refine lq_top (v := s2) (by rw [hs2]; exact congrArg xs (by rw [z_nat (x := x_319) rfl]; omega)) ?_
          refine lv_aload_n hx hb dL_law_1057 rfl (lv_at hl 0 rfl) ?_
          refine lv_iload hx hb dL_law_1058 (lv_at hl 4 rfl) ?_
          refine lv_iconst (v := 3) hx hb dL_law_1060 (by decide) ?_
          refine lv_iadd hx hb dL_law_1061 ?_
          refine lv_topi (fun x_320 ex_320 => ?_)
          have hx_320 := z_add ex_320 rfl (zk (x := 3) 3 rfl) (by omega) (by omega)
          refine va_sld hx hb hXs hbl hbA hS (z_in rfl (by omega) (by omega)) dL_law_1062 ?_
          refine lq_top (v := s3) (by rw [hs3]; exact congrArg xs (by rw [z_nat (x := x_320) rfl]; omega)) ?_
          have hFc := tw_free hF hS hA
          refine va_calli (va_runV (As := [.int s1, .int s2, .int s3]) (rest := []) ⟨hx, hb, hml, hown, hts⟩ (m_slips l dC dI ad av H.size a k tm_316 lm_316 ym_316 gm_316 v s1 s2 s3 hJ hW) (cwV 3 hts (gi_4 (im_law _ (List.mem_of_getElem? (i := 128) rfl)) (im_law _ (List.mem_of_getElem? (i := 129) rfl)) (im_law _ (List.mem_of_getElem? (i := 130) rfl)) (im_law _ (List.mem_of_getElem? (i := 7) rfl)) im_m_slips gd_m_slips) rfl rfl rfl (by decide +kernel) ⟨Nat.le_of_ble_eq_true rfl, Nat.le_of_ble_eq_true rfl⟩) ⟨pw_blind, tw_recv hK hT (fx_50 hX) (by decide) cl_e60 rfl, pw_use hT hK hFc hS hM⟩ rfl rfl hl.1 rfl (lv_room (Nat.le_of_ble_eq_true rfl)) dL_law_1063 ⟨by show 200 + 4 * q + 0 + 0 ≤ 601024; omega, by show 60000 + 100 * q + 0 + 0 ≤ 7293034; omega⟩) hS (fun q _ h => hFc q h) hFc (fun r0 r_321 t H locs ht hvm hw hB hz1 hk1 hS => ?_)
          clear hvm hz1 hk1
          subst hw
          rcases hB with ⟨ym_322, gm_322, hre, hgm_322, hggm_322, hJ, hT⟩ | ⟨ym_323, gm_323, hre, hgm_323, hggm_323, hJ, hT⟩
          · refine lq_top (v := 1) hre ?_
            rw [ht] at hT
            have hI := hI.ag hgm_322 (by decide)
            have hI := hI.agg hggm_322
            have hW : IW (v 1) (v 2) (v 9) (ym_322 (a 89)) := by rw [hgm_322.at (fx_89 hX) (by decide)]; exact hW
            have hTh : vb 38408 0 4800 (ym_322 (a 99)) := by rw [hgm_322.at (fx_99 hX) (by decide)]; exact hTh
            refine lv_pop hx hb dL_law_1066 rfl ?_
            refine lv_goto (tgt := 1360) hx hb dL_law_1067 (by decide) ?_
            obtain ⟨x_324, ex_324⟩ : ∃ y : Int32, y = i4 + Int32.ofInt 10 := ⟨_, rfl⟩
            have hx_324 := z_add ex_324 rfl (zk (x := Int32.ofInt 10) 10 rfl) (by omega) (by omega)
            refine lv_iinc (v := x_324) (lv' := [(4, .int x_324), (0, .ref b), (1, .ref (a 0)), (2, .ref (a 50)), (3, .ref (a 49))]) hx hb dL_law_1360 hl (k := 4) rfl ex_324.symm (by decide) rfl (fun ls hl => ?_)
            refine lv_goto (tgt := 23) hx hb dL_law_1363 (by decide) ?_
            refine W.widen (k := 200 + 4 * (q + 1)) (n := 60000 + 100 * (q + 1)) (by omega) (by omega) ?_
            exact ih (q + 1) x_324 tm_316 lm_316 ym_322 gm_322 um_316 v H _ ls (by omega) hF hI hJ hW hTh (by omega) (by omega) (by omega) (by omega) (by omega) hT hS (lv_sub hl [1, 2, 3, 4, 0] rfl)
          · refine lq_top (v := 0) hre ?_
            rw [ht] at hT
            have hI := hI.ag hgm_323 (by decide)
            have hI := hI.agg hggm_323
            have hW : IW (v 1) (v 2) (v 9) (ym_323 (a 89)) := by rw [hgm_323.at (fx_89 hX) (by decide)]; exact hW
            have hTh : vb 38408 0 4800 (ym_323 (a 99)) := by rw [hgm_323.at (fx_99 hX) (by decide)]; exact hTh
            refine lv_pop hx hb dL_law_1066 rfl ?_
            refine lv_goto (tgt := 1360) hx hb dL_law_1067 (by decide) ?_
            obtain ⟨x_325, ex_325⟩ : ∃ y : Int32, y = i4 + Int32.ofInt 10 := ⟨_, rfl⟩
            have hx_325 := z_add ex_325 rfl (zk (x := Int32.ofInt 10) 10 rfl) (by omega) (by omega)
            refine lv_iinc (v := x_325) (lv' := [(4, .int x_325), (0, .ref b), (1, .ref (a 0)), (2, .ref (a 50)), (3, .ref (a 49))]) hx hb dL_law_1360 hl (k := 4) rfl ex_325.symm (by decide) rfl (fun ls hl => ?_)
            refine lv_goto (tgt := 23) hx hb dL_law_1363 (by decide) ?_
            refine W.widen (k := 200 + 4 * (q + 1)) (n := 60000 + 100 * (q + 1)) (by omega) (by omega) ?_
            exact ih (q + 1) x_325 tm_316 lm_316 ym_323 gm_323 um_316 v H _ ls (by omega) hF hI hJ hW hTh (by omega) (by omega) (by omega) (by omega) (by omega) hT hS (lv_sub hl [1, 2, 3, 4, 0] rfl)
        · refine lq_top (v := 0) hre ?_
          rw [ht] at hT
          have hF : ∀ q, tm_317 q ≠ 0 → s.heap.size ≤ q := fun q h => hFc q (hMo.2 q h)
          have hJ := hJ.kp hKM hI.1
          have hW : IW (v 1) (v 2) (v 9) (ym_317 (a 89)) := by rw [hKM.fx hX (j := 89) (by decide) (by decide)]; exact hW
          have hTh : vb 38408 0 4800 (ym_317 (a 99)) := by rw [hKM.fx hX (j := 99) (by decide) (by decide)]; exact hTh
          have hX := hI.1
          have : um_317 8 = u 8 := hum_317 8 (by decide)
          refine lv_pop hx hb dL_law_1043 rfl ?_
          refine lv_aload_n hx hb dL_law_1044 rfl (lv_at hl 2 rfl) ?_
          refine lv_aload_n hx hb dL_law_1045 rfl (lv_at hl 0 rfl) ?_
          refine lv_iload hx hb dL_law_1046 (lv_at hl 4 rfl) ?_
          refine lv_iconst (v := 1) hx hb dL_law_1048 (by decide) ?_
          refine lv_iadd hx hb dL_law_1049 ?_
          refine lv_topi (fun x_326 ex_326 => ?_)
          have hx_326 := z_add ex_326 rfl (zk (x := 1) 1 rfl) (by omega) (by omega)
          refine va_sld hx hb hXs hbl hbA hS (z_in rfl (by omega) (by omega)) dL_law_1050 ?_
          refine lq_top (v := s1) (by rw [hs1]; exact congrArg xs (by rw [z_nat (x := x_326) rfl]; omega)) ?_
          refine lv_aload_n hx hb dL_law_1051 rfl (lv_at hl 0 rfl) ?_
          refine lv_iload hx hb dL_law_1052 (lv_at hl 4 rfl) ?_
          refine lv_iconst (v := 2) hx hb dL_law_1054 (by decide) ?_
          refine lv_iadd hx hb dL_law_1055 ?_
          refine lv_topi (fun x_327 ex_327 => ?_)
          have hx_327 := z_add ex_327 rfl (zk (x := 2) 2 rfl) (by omega) (by omega)
          refine va_sld hx hb hXs hbl hbA hS (z_in rfl (by omega) (by omega)) dL_law_1056 ?_
          refine lq_top (v := s2) (by rw [hs2]; exact congrArg xs (by rw [z_nat (x := x_327) rfl]; omega)) ?_
          refine lv_aload_n hx hb dL_law_1057 rfl (lv_at hl 0 rfl) ?_
          refine lv_iload hx hb dL_law_1058 (lv_at hl 4 rfl) ?_
          refine lv_iconst (v := 3) hx hb dL_law_1060 (by decide) ?_
          refine lv_iadd hx hb dL_law_1061 ?_
          refine lv_topi (fun x_328 ex_328 => ?_)
          have hx_328 := z_add ex_328 rfl (zk (x := 3) 3 rfl) (by omega) (by omega)
          refine va_sld hx hb hXs hbl hbA hS (z_in rfl (by omega) (by omega)) dL_law_1062 ?_
          refine lq_top (v := s3) (by rw [hs3]; exact congrArg xs (by rw [z_nat (x := x_328) rfl]; omega)) ?_
          have hFc := tw_free hF hS hA
          refine va_calli (va_runV (As := [.int s1, .int s2, .int s3]) (rest := []) ⟨hx, hb, hml, hown, hts⟩ (m_slips l dC dI ad av H.size a k tm_317 lm_317 ym_317 gm_317 v s1 s2 s3 hJ hW) (cwV 3 hts (gi_4 (im_law _ (List.mem_of_getElem? (i := 128) rfl)) (im_law _ (List.mem_of_getElem? (i := 129) rfl)) (im_law _ (List.mem_of_getElem? (i := 130) rfl)) (im_law _ (List.mem_of_getElem? (i := 7) rfl)) im_m_slips gd_m_slips) rfl rfl rfl (by decide +kernel) ⟨Nat.le_of_ble_eq_true rfl, Nat.le_of_ble_eq_true rfl⟩) ⟨pw_blind, tw_recv hK hT (fx_50 hX) (by decide) cl_e60 rfl, pw_use hT hK hFc hS hM⟩ rfl rfl hl.1 rfl (lv_room (Nat.le_of_ble_eq_true rfl)) dL_law_1063 ⟨by show 200 + 4 * q + 0 + 0 ≤ 601024; omega, by show 60000 + 100 * q + 0 + 0 ≤ 7293034; omega⟩) hS (fun q _ h => hFc q h) hFc (fun r0 r_329 t H locs ht hvm hw hB hz1 hk1 hS => ?_)
          clear hvm hz1 hk1
          subst hw
          rcases hB with ⟨ym_330, gm_330, hre, hgm_330, hggm_330, hJ, hT⟩ | ⟨ym_331, gm_331, hre, hgm_331, hggm_331, hJ, hT⟩
          · refine lq_top (v := 1) hre ?_
            rw [ht] at hT
            have hI := hI.ag hgm_330 (by decide)
            have hI := hI.agg hggm_330
            have hW : IW (v 1) (v 2) (v 9) (ym_330 (a 89)) := by rw [hgm_330.at (fx_89 hX) (by decide)]; exact hW
            have hTh : vb 38408 0 4800 (ym_330 (a 99)) := by rw [hgm_330.at (fx_99 hX) (by decide)]; exact hTh
            refine lv_pop hx hb dL_law_1066 rfl ?_
            refine lv_goto (tgt := 1360) hx hb dL_law_1067 (by decide) ?_
            obtain ⟨x_332, ex_332⟩ : ∃ y : Int32, y = i4 + Int32.ofInt 10 := ⟨_, rfl⟩
            have hx_332 := z_add ex_332 rfl (zk (x := Int32.ofInt 10) 10 rfl) (by omega) (by omega)
            refine lv_iinc (v := x_332) (lv' := [(4, .int x_332), (0, .ref b), (1, .ref (a 0)), (2, .ref (a 50)), (3, .ref (a 49))]) hx hb dL_law_1360 hl (k := 4) rfl ex_332.symm (by decide) rfl (fun ls hl => ?_)
            refine lv_goto (tgt := 23) hx hb dL_law_1363 (by decide) ?_
            refine W.widen (k := 200 + 4 * (q + 1)) (n := 60000 + 100 * (q + 1)) (by omega) (by omega) ?_
            exact ih (q + 1) x_332 tm_317 lm_317 ym_330 gm_330 um_317 v H _ ls (by omega) hF hI hJ hW hTh (by omega) (by omega) (by omega) (by omega) (by omega) hT hS (lv_sub hl [1, 2, 3, 4, 0] rfl)
          · refine lq_top (v := 0) hre ?_
            rw [ht] at hT
            have hI := hI.ag hgm_331 (by decide)
            have hI := hI.agg hggm_331
            have hW : IW (v 1) (v 2) (v 9) (ym_331 (a 89)) := by rw [hgm_331.at (fx_89 hX) (by decide)]; exact hW
            have hTh : vb 38408 0 4800 (ym_331 (a 99)) := by rw [hgm_331.at (fx_99 hX) (by decide)]; exact hTh
            refine lv_pop hx hb dL_law_1066 rfl ?_
            refine lv_goto (tgt := 1360) hx hb dL_law_1067 (by decide) ?_
            obtain ⟨x_333, ex_333⟩ : ∃ y : Int32, y = i4 + Int32.ofInt 10 := ⟨_, rfl⟩
            have hx_333 := z_add ex_333 rfl (zk (x := Int32.ofInt 10) 10 rfl) (by omega) (by omega)
            refine lv_iinc (v := x_333) (lv' := [(4, .int x_333), (0, .ref b), (1, .ref (a 0)), (2, .ref (a 50)), (3, .ref (a 49))]) hx hb dL_law_1360 hl (k := 4) rfl ex_333.symm (by decide) rfl (fun ls hl => ?_)
            refine lv_goto (tgt := 23) hx hb dL_law_1363 (by decide) ?_
            refine W.widen (k := 200 + 4 * (q + 1)) (n := 60000 + 100 * (q + 1)) (by omega) (by omega) ?_
            exact ih (q + 1) x_333 tm_317 lm_317 ym_331 gm_331 um_317 v H _ ls (by omega) hF hI hJ hW hTh (by omega) (by omega) (by omega) (by omega) (by omega) hT hS (lv_sub hl [1, 2, 3, 4, 0] rfl)
      · refine lq_top (v := 22) t_5 ?_
        have nt_5 := z_eq rfl (zk (x := 22) 22 rfl) t_5
        refine lv_tableIn (tgt := 1070) hx hb dL_law_40 (by decide) (by decide) (off := 1030) (by decide) (by decide) ?_
        refine lv_aload_n hx hb dL_law_1070 rfl (lv_at hl 1 rfl) ?_
        refine lv_aload_n hx hb dL_law_1071 rfl (lv_at hl 0 rfl) ?_
        refine lv_iload hx hb dL_law_1072 (lv_at hl 4 rfl) ?_
        refine lv_iconst (v := 1) hx hb dL_law_1074 (by decide) ?_
        refine lv_iadd hx hb dL_law_1075 ?_
        refine lv_topi (fun x_334 ex_334 => ?_)
        have hx_334 := z_add ex_334 rfl (zk (x := 1) 1 rfl) (by omega) (by omega)
        refine va_sld hx hb hXs hbl hbA hS (z_in rfl (by omega) (by omega)) dL_law_1076 ?_
        refine lq_top (v := s1) (by rw [hs1]; exact congrArg xs (by rw [z_nat (x := x_334) rfl]; omega)) ?_
        refine lv_aload_n hx hb dL_law_1077 rfl (lv_at hl 0 rfl) ?_
        refine lv_iload hx hb dL_law_1078 (lv_at hl 4 rfl) ?_
        refine lv_iconst (v := 2) hx hb dL_law_1080 (by decide) ?_
        refine lv_iadd hx hb dL_law_1081 ?_
        refine lv_topi (fun x_335 ex_335 => ?_)
        have hx_335 := z_add ex_335 rfl (zk (x := 2) 2 rfl) (by omega) (by omega)
        refine va_sld hx hb hXs hbl hbA hS (z_in rfl (by omega) (by omega)) dL_law_1082 ?_
        refine lq_top (v := s2) (by rw [hs2]; exact congrArg xs (by rw [z_nat (x := x_335) rfl]; omega)) ?_
        have hFc := tw_free hF hS hA
        refine va_calli (va_runV (As := [.int s1, .int s2]) (rest := []) ⟨hx, hb, hml, hown, hts⟩ (c_left l dC dI ad av H.size a k τ ln y g u s1 s2 hI ) (cwV 2 hts (gi_4 (im_law _ (List.mem_of_getElem? (i := 131) rfl)) (im_law _ (List.mem_of_getElem? (i := 132) rfl)) (im_law _ (List.mem_of_getElem? (i := 133) rfl)) (im_law _ (List.mem_of_getElem? (i := 3) rfl)) im_c_left gd_c_left) rfl rfl rfl (by decide +kernel) ⟨Nat.le_of_ble_eq_true rfl, Nat.le_of_ble_eq_true rfl⟩) ⟨pw_blind, tw_recv hK hT (fx_0 hX) (by decide) cl_e10 rfl, pw_use hT hK hFc hS hM⟩ rfl rfl hl.1 rfl (lv_room (Nat.le_of_ble_eq_true rfl)) dL_law_1083 ⟨by show 200 + 4 * q + 0 ≤ 601024; omega, by show 60000 + 100 * q + 0 ≤ 7293034; omega⟩) hS (fun q _ h => hFc q h) hFc (fun r0 r_336 t H locs ht hvm hw hB hz1 hk1 hS => ?_)
        clear hvm hz1 hk1
        subst hw
        obtain ⟨um_337, hum_337, ⟨tm_337, lm_337, ym_337, gm_337, hMo, hKM, hI, hT⟩⟩ := hB
        rw [ht] at hT
        have hF : ∀ q, tm_337 q ≠ 0 → s.heap.size ≤ q := fun q h => hFc q (hMo.2 q h)
        have hJ := hJ.kp hKM hI.1
        have hW : IW (v 1) (v 2) (v 9) (ym_337 (a 89)) := by rw [hKM.fx hX (j := 89) (by decide) (by decide)]; exact hW
        have hTh : vb 38408 0 4800 (ym_337 (a 99)) := by rw [hKM.fx hX (j := 99) (by decide) (by decide)]; exact hTh
        have hX := hI.1
        have : um_337 8 = u 8 := hum_337 8 (by decide)
        refine lv_pop hx hb dL_law_1086 rfl ?_
        refine lv_aload_n hx hb dL_law_1087 rfl (lv_at hl 2 rfl) ?_
        refine lv_aload_n hx hb dL_law_1088 rfl (lv_at hl 0 rfl) ?_
        refine lv_iload hx hb dL_law_1089 (lv_at hl 4 rfl) ?_
        refine lv_iconst (v := 1) hx hb dL_law_1091 (by decide) ?_
        refine lv_iadd hx hb dL_law_1092 ?_
        refine lv_topi (fun x_338 ex_338 => ?_)
        have hx_338 := z_add ex_338 rfl (zk (x := 1) 1 rfl) (by omega) (by omega)
        refine va_sld hx hb hXs hbl hbA hS (z_in rfl (by omega) (by omega)) dL_law_1093 ?_
        refine lq_top (v := s1) (by rw [hs1]; exact congrArg xs (by rw [z_nat (x := x_338) rfl]; omega)) ?_
        refine lv_aload_n hx hb dL_law_1094 rfl (lv_at hl 0 rfl) ?_
        refine lv_iload hx hb dL_law_1095 (lv_at hl 4 rfl) ?_
        refine lv_iconst (v := 2) hx hb dL_law_1097 (by decide) ?_
        refine lv_iadd hx hb dL_law_1098 ?_
        refine lv_topi (fun x_339 ex_339 => ?_)
        have hx_339 := z_add ex_339 rfl (zk (x := 2) 2 rfl) (by omega) (by omega)
        refine va_sld hx hb hXs hbl hbA hS (z_in rfl (by omega) (by omega)) dL_law_1099 ?_
        refine lq_top (v := s2) (by rw [hs2]; exact congrArg xs (by rw [z_nat (x := x_339) rfl]; omega)) ?_
        have hFc := tw_free hF hS hA
        refine va_calli (va_runV (As := [.int s1, .int s2]) (rest := []) ⟨hx, hb, hml, hown, hts⟩ (m_left l dC dI ad av H.size a k tm_337 lm_337 ym_337 gm_337 v s1 s2 hJ hW) (cwV 2 hts (gi_4 (im_law _ (List.mem_of_getElem? (i := 134) rfl)) (im_law _ (List.mem_of_getElem? (i := 135) rfl)) (im_law _ (List.mem_of_getElem? (i := 136) rfl)) (im_law _ (List.mem_of_getElem? (i := 7) rfl)) im_m_left gd_m_left) rfl rfl rfl (by decide +kernel) ⟨Nat.le_of_ble_eq_true rfl, Nat.le_of_ble_eq_true rfl⟩) ⟨pw_blind, tw_recv hK hT (fx_50 hX) (by decide) cl_e60 rfl, pw_use hT hK hFc hS hM⟩ rfl rfl hl.1 rfl (lv_room (Nat.le_of_ble_eq_true rfl)) dL_law_1100 ⟨by show 200 + 4 * q + 0 + 0 ≤ 601024; omega, by show 60000 + 100 * q + 0 + 0 ≤ 7293034; omega⟩) hS (fun q _ h => hFc q h) hFc (fun r0 r_340 t H locs ht hvm hw hB hz1 hk1 hS => ?_)
        clear hvm hz1 hk1
        subst hw
        obtain ⟨ym_341, gm_341, hgm_341, hggm_341, hJ, hT⟩ := hB
        rw [ht] at hT
        have hI := hI.ag hgm_341 (by decide)
        have hI := hI.agg hggm_341
        have hW : IW (v 1) (v 2) (v 9) (ym_341 (a 89)) := by rw [hgm_341.at (fx_89 hX) (by decide)]; exact hW
        have hTh : vb 38408 0 4800 (ym_341 (a 99)) := by rw [hgm_341.at (fx_99 hX) (by decide)]; exact hTh
        refine lv_pop hx hb dL_law_1103 rfl ?_
        refine lv_goto (tgt := 1360) hx hb dL_law_1104 (by decide) ?_
        obtain ⟨x_342, ex_342⟩ : ∃ y : Int32, y = i4 + Int32.ofInt 10 := ⟨_, rfl⟩
        have hx_342 := z_add ex_342 rfl (zk (x := Int32.ofInt 10) 10 rfl) (by omega) (by omega)
        refine lv_iinc (v := x_342) (lv' := [(4, .int x_342), (0, .ref b), (1, .ref (a 0)), (2, .ref (a 50)), (3, .ref (a 49))]) hx hb dL_law_1360 hl (k := 4) rfl ex_342.symm (by decide) rfl (fun ls hl => ?_)
        refine lv_goto (tgt := 23) hx hb dL_law_1363 (by decide) ?_
        refine W.widen (k := 200 + 4 * (q + 1)) (n := 60000 + 100 * (q + 1)) (by omega) (by omega) ?_
        exact ih (q + 1) x_342 tm_337 lm_337 ym_341 gm_341 um_337 v H _ ls (by omega) hF hI hJ hW hTh (by omega) (by omega) (by omega) (by omega) (by omega) hT hS (lv_sub hl [1, 2, 3, 4, 0] rfl)
      · refine lq_top (v := 23) t_5 ?_
        have nt_5 := z_eq rfl (zk (x := 23) 23 rfl) t_5
        refine lv_tableIn (tgt := 1107) hx hb dL_law_40 (by decide) (by decide) (off := 1067) (by decide) (by decide) ?_
        refine lv_aload_n hx hb dL_law_1107 rfl (lv_at hl 1 rfl) ?_
        refine lv_aload_n hx hb dL_law_1108 rfl (lv_at hl 0 rfl) ?_
        refine lv_iload hx hb dL_law_1109 (lv_at hl 4 rfl) ?_
        refine lv_iconst (v := 1) hx hb dL_law_1111 (by decide) ?_
        refine lv_iadd hx hb dL_law_1112 ?_
        refine lv_topi (fun x_343 ex_343 => ?_)
        have hx_343 := z_add ex_343 rfl (zk (x := 1) 1 rfl) (by omega) (by omega)
        refine va_sld hx hb hXs hbl hbA hS (z_in rfl (by omega) (by omega)) dL_law_1113 ?_
        refine lq_top (v := s1) (by rw [hs1]; exact congrArg xs (by rw [z_nat (x := x_343) rfl]; omega)) ?_
        refine lv_aload_n hx hb dL_law_1114 rfl (lv_at hl 0 rfl) ?_
        refine lv_iload hx hb dL_law_1115 (lv_at hl 4 rfl) ?_
        refine lv_iconst (v := 2) hx hb dL_law_1117 (by decide) ?_
        refine lv_iadd hx hb dL_law_1118 ?_
        refine lv_topi (fun x_344 ex_344 => ?_)
        have hx_344 := z_add ex_344 rfl (zk (x := 2) 2 rfl) (by omega) (by omega)
        refine va_sld hx hb hXs hbl hbA hS (z_in rfl (by omega) (by omega)) dL_law_1119 ?_
        refine lq_top (v := s2) (by rw [hs2]; exact congrArg xs (by rw [z_nat (x := x_344) rfl]; omega)) ?_
        have hFc := tw_free hF hS hA
        refine va_calli (va_runV (As := [.int s1, .int s2]) (rest := []) ⟨hx, hb, hml, hown, hts⟩ (c_quick l dC dI ad av H.size a k τ ln y g u s1 s2 hI ) (cwV 2 hts (gi_4 (im_law _ (List.mem_of_getElem? (i := 137) rfl)) (im_law _ (List.mem_of_getElem? (i := 138) rfl)) (im_law _ (List.mem_of_getElem? (i := 139) rfl)) (im_law _ (List.mem_of_getElem? (i := 3) rfl)) im_c_quick gd_c_quick) rfl rfl rfl (by decide +kernel) ⟨Nat.le_of_ble_eq_true rfl, Nat.le_of_ble_eq_true rfl⟩) ⟨pw_blind, tw_recv hK hT (fx_0 hX) (by decide) cl_e10 rfl, pw_use hT hK hFc hS hM⟩ rfl rfl hl.1 rfl (lv_room (Nat.le_of_ble_eq_true rfl)) dL_law_1120 ⟨by show 200 + 4 * q + 0 ≤ 601024; omega, by show 60000 + 100 * q + 0 ≤ 7293034; omega⟩) hS (fun q _ h => hFc q h) hFc (fun r0 r_345 t H locs ht hvm hw hB hz1 hk1 hS => ?_)
        clear hvm hz1 hk1
        subst hw
        obtain ⟨um_346, hum_346, ⟨tm_346, lm_346, ym_346, gm_346, hMo, hKM, hI, hT⟩⟩ := hB
        rw [ht] at hT
        have hF : ∀ q, tm_346 q ≠ 0 → s.heap.size ≤ q := fun q h => hFc q (hMo.2 q h)
        have hJ := hJ.kp hKM hI.1
        have hW : IW (v 1) (v 2) (v 9) (ym_346 (a 89)) := by rw [hKM.fx hX (j := 89) (by decide) (by decide)]; exact hW
        have hTh : vb 38408 0 4800 (ym_346 (a 99)) := by rw [hKM.fx hX (j := 99) (by decide) (by decide)]; exact hTh
        have hX := hI.1
        have : um_346 8 = u 8 := hum_346 8 (by decide)
        refine lv_pop hx hb dL_law_1123 rfl ?_
        refine lv_aload_n hx hb dL_law_1124 rfl (lv_at hl 2 rfl) ?_
        refine lv_aload_n hx hb dL_law_1125 rfl (lv_at hl 0 rfl) ?_
        refine lv_iload hx hb dL_law_1126 (lv_at hl 4 rfl) ?_
        refine lv_iconst (v := 1) hx hb dL_law_1128 (by decide) ?_
        refine lv_iadd hx hb dL_law_1129 ?_
        refine lv_topi (fun x_347 ex_347 => ?_)
        have hx_347 := z_add ex_347 rfl (zk (x := 1) 1 rfl) (by omega) (by omega)
        refine va_sld hx hb hXs hbl hbA hS (z_in rfl (by omega) (by omega)) dL_law_1130 ?_
        refine lq_top (v := s1) (by rw [hs1]; exact congrArg xs (by rw [z_nat (x := x_347) rfl]; omega)) ?_
        refine lv_aload_n hx hb dL_law_1131 rfl (lv_at hl 0 rfl) ?_
        refine lv_iload hx hb dL_law_1132 (lv_at hl 4 rfl) ?_
        refine lv_iconst (v := 2) hx hb dL_law_1134 (by decide) ?_
        refine lv_iadd hx hb dL_law_1135 ?_
        refine lv_topi (fun x_348 ex_348 => ?_)
        have hx_348 := z_add ex_348 rfl (zk (x := 2) 2 rfl) (by omega) (by omega)
        refine va_sld hx hb hXs hbl hbA hS (z_in rfl (by omega) (by omega)) dL_law_1136 ?_
        refine lq_top (v := s2) (by rw [hs2]; exact congrArg xs (by rw [z_nat (x := x_348) rfl]; omega)) ?_
        have hFc := tw_free hF hS hA
        refine va_calli (va_runV (As := [.int s1, .int s2]) (rest := []) ⟨hx, hb, hml, hown, hts⟩ (m_quick l dC dI ad av H.size a k tm_346 lm_346 ym_346 gm_346 v s1 s2 hJ hW) (cwV 2 hts (gi_4 (im_law _ (List.mem_of_getElem? (i := 140) rfl)) (im_law _ (List.mem_of_getElem? (i := 141) rfl)) (im_law _ (List.mem_of_getElem? (i := 142) rfl)) (im_law _ (List.mem_of_getElem? (i := 7) rfl)) im_m_quick gd_m_quick) rfl rfl rfl (by decide +kernel) ⟨Nat.le_of_ble_eq_true rfl, Nat.le_of_ble_eq_true rfl⟩) ⟨pw_blind, tw_recv hK hT (fx_50 hX) (by decide) cl_e60 rfl, pw_use hT hK hFc hS hM⟩ rfl rfl hl.1 rfl (lv_room (Nat.le_of_ble_eq_true rfl)) dL_law_1137 ⟨by show 200 + 4 * q + 0 + 0 ≤ 601024; omega, by show 60000 + 100 * q + 0 + 0 ≤ 7293034; omega⟩) hS (fun q _ h => hFc q h) hFc (fun r0 r_349 t H locs ht hvm hw hB hz1 hk1 hS => ?_)
        clear hvm hz1 hk1
        subst hw
        obtain ⟨ym_350, gm_350, hgm_350, hggm_350, hJ, hT⟩ := hB
        rw [ht] at hT
        have hI := hI.ag hgm_350 (by decide)
        have hI := hI.agg hggm_350
        have hW : IW (v 1) (v 2) (v 9) (ym_350 (a 89)) := by rw [hgm_350.at (fx_89 hX) (by decide)]; exact hW
        have hTh : vb 38408 0 4800 (ym_350 (a 99)) := by rw [hgm_350.at (fx_99 hX) (by decide)]; exact hTh
        refine lv_pop hx hb dL_law_1140 rfl ?_
        refine lv_goto (tgt := 1360) hx hb dL_law_1141 (by decide) ?_
        obtain ⟨x_351, ex_351⟩ : ∃ y : Int32, y = i4 + Int32.ofInt 10 := ⟨_, rfl⟩
        have hx_351 := z_add ex_351 rfl (zk (x := Int32.ofInt 10) 10 rfl) (by omega) (by omega)
        refine lv_iinc (v := x_351) (lv' := [(4, .int x_351), (0, .ref b), (1, .ref (a 0)), (2, .ref (a 50)), (3, .ref (a 49))]) hx hb dL_law_1360 hl (k := 4) rfl ex_351.symm (by decide) rfl (fun ls hl => ?_)
        refine lv_goto (tgt := 23) hx hb dL_law_1363 (by decide) ?_
        refine W.widen (k := 200 + 4 * (q + 1)) (n := 60000 + 100 * (q + 1)) (by omega) (by omega) ?_
        exact ih (q + 1) x_351 tm_346 lm_346 ym_350 gm_350 um_346 v H _ ls (by omega) hF hI hJ hW hTh (by omega) (by omega) (by omega) (by omega) (by omega) hT hS (lv_sub hl [1, 2, 3, 4, 0] rfl)
      · refine lq_top (v := 24) t_5 ?_
        have nt_5 := z_eq rfl (zk (x := 24) 24 rfl) t_5
        refine lv_tableIn (tgt := 1144) hx hb dL_law_40 (by decide) (by decide) (off := 1104) (by decide) (by decide) ?_
        refine lv_aload_n hx hb dL_law_1144 rfl (lv_at hl 1 rfl) ?_
        refine lv_aload_n hx hb dL_law_1145 rfl (lv_at hl 0 rfl) ?_
        refine lv_iload hx hb dL_law_1146 (lv_at hl 4 rfl) ?_
        refine lv_iconst (v := 1) hx hb dL_law_1148 (by decide) ?_
        refine lv_iadd hx hb dL_law_1149 ?_
        refine lv_topi (fun x_352 ex_352 => ?_)
        have hx_352 := z_add ex_352 rfl (zk (x := 1) 1 rfl) (by omega) (by omega)
        refine va_sld hx hb hXs hbl hbA hS (z_in rfl (by omega) (by omega)) dL_law_1150 ?_
        refine lq_top (v := s1) (by rw [hs1]; exact congrArg xs (by rw [z_nat (x := x_352) rfl]; omega)) ?_
        refine lv_aload_n hx hb dL_law_1151 rfl (lv_at hl 0 rfl) ?_
        refine lv_iload hx hb dL_law_1152 (lv_at hl 4 rfl) ?_
        refine lv_iconst (v := 2) hx hb dL_law_1154 (by decide) ?_
        refine lv_iadd hx hb dL_law_1155 ?_
        refine lv_topi (fun x_353 ex_353 => ?_)
        have hx_353 := z_add ex_353 rfl (zk (x := 2) 2 rfl) (by omega) (by omega)
        refine va_sld hx hb hXs hbl hbA hS (z_in rfl (by omega) (by omega)) dL_law_1156 ?_
        refine lq_top (v := s2) (by rw [hs2]; exact congrArg xs (by rw [z_nat (x := x_353) rfl]; omega)) ?_
        have hFc := tw_free hF hS hA
        refine va_calli (va_runV (As := [.int s1, .int s2]) (rest := []) ⟨hx, hb, hml, hown, hts⟩ (c_claims l dC dI ad av H.size a k τ ln y g u s1 s2 hI ) (cwV 2 hts (gi_4 (im_law _ (List.mem_of_getElem? (i := 143) rfl)) (im_law _ (List.mem_of_getElem? (i := 144) rfl)) (im_law _ (List.mem_of_getElem? (i := 145) rfl)) (im_law _ (List.mem_of_getElem? (i := 3) rfl)) im_c_claims gd_c_claims) rfl rfl rfl (by decide +kernel) ⟨Nat.le_of_ble_eq_true rfl, Nat.le_of_ble_eq_true rfl⟩) ⟨pw_blind, tw_recv hK hT (fx_0 hX) (by decide) cl_e10 rfl, pw_use hT hK hFc hS hM⟩ rfl rfl hl.1 rfl (lv_room (Nat.le_of_ble_eq_true rfl)) dL_law_1157 ⟨by show 200 + 4 * q + 0 ≤ 601024; omega, by show 60000 + 100 * q + 0 ≤ 7293034; omega⟩) hS (fun q _ h => hFc q h) hFc (fun r0 r_354 t H locs ht hvm hw hB hz1 hk1 hS => ?_)
        clear hvm hz1 hk1
        subst hw
        obtain ⟨um_355, hum_355, ⟨tm_355, lm_355, ym_355, gm_355, hMo, hKM, hI, hT⟩⟩ := hB
        rw [ht] at hT
        have hF : ∀ q, tm_355 q ≠ 0 → s.heap.size ≤ q := fun q h => hFc q (hMo.2 q h)
        have hJ := hJ.kp hKM hI.1
        have hW : IW (v 1) (v 2) (v 9) (ym_355 (a 89)) := by rw [hKM.fx hX (j := 89) (by decide) (by decide)]; exact hW
        have hTh : vb 38408 0 4800 (ym_355 (a 99)) := by rw [hKM.fx hX (j := 99) (by decide) (by decide)]; exact hTh
        have hX := hI.1
        have : um_355 8 = u 8 := hum_355 8 (by decide)
        refine lv_pop hx hb dL_law_1160 rfl ?_
        refine lv_aload_n hx hb dL_law_1161 rfl (lv_at hl 2 rfl) ?_
        refine lv_aload_n hx hb dL_law_1162 rfl (lv_at hl 0 rfl) ?_
        refine lv_iload hx hb dL_law_1163 (lv_at hl 4 rfl) ?_
        refine lv_iconst (v := 1) hx hb dL_law_1165 (by decide) ?_
        refine lv_iadd hx hb dL_law_1166 ?_
        refine lv_topi (fun x_356 ex_356 => ?_)
        have hx_356 := z_add ex_356 rfl (zk (x := 1) 1 rfl) (by omega) (by omega)
        refine va_sld hx hb hXs hbl hbA hS (z_in rfl (by omega) (by omega)) dL_law_1167 ?_
        refine lq_top (v := s1) (by rw [hs1]; exact congrArg xs (by rw [z_nat (x := x_356) rfl]; omega)) ?_
        refine lv_aload_n hx hb dL_law_1168 rfl (lv_at hl 0 rfl) ?_
        refine lv_iload hx hb dL_law_1169 (lv_at hl 4 rfl) ?_
        refine lv_iconst (v := 2) hx hb dL_law_1171 (by decide) ?_
        refine lv_iadd hx hb dL_law_1172 ?_
        refine lv_topi (fun x_357 ex_357 => ?_)
        have hx_357 := z_add ex_357 rfl (zk (x := 2) 2 rfl) (by omega) (by omega)
        refine va_sld hx hb hXs hbl hbA hS (z_in rfl (by omega) (by omega)) dL_law_1173 ?_
        refine lq_top (v := s2) (by rw [hs2]; exact congrArg xs (by rw [z_nat (x := x_357) rfl]; omega)) ?_
        have hFc := tw_free hF hS hA
        refine va_calli (va_runV (As := [.int s1, .int s2]) (rest := []) ⟨hx, hb, hml, hown, hts⟩ (m_claims l dC dI ad av H.size a k tm_355 lm_355 ym_355 gm_355 v s1 s2 hJ hW) (cwV 2 hts (gi_4 (im_law _ (List.mem_of_getElem? (i := 146) rfl)) (im_law _ (List.mem_of_getElem? (i := 147) rfl)) (im_law _ (List.mem_of_getElem? (i := 148) rfl)) (im_law _ (List.mem_of_getElem? (i := 7) rfl)) im_m_claims gd_m_claims) rfl rfl rfl (by decide +kernel) ⟨Nat.le_of_ble_eq_true rfl, Nat.le_of_ble_eq_true rfl⟩) ⟨pw_blind, tw_recv hK hT (fx_50 hX) (by decide) cl_e60 rfl, pw_use hT hK hFc hS hM⟩ rfl rfl hl.1 rfl (lv_room (Nat.le_of_ble_eq_true rfl)) dL_law_1174 ⟨by show 200 + 4 * q + 0 + 0 ≤ 601024; omega, by show 60000 + 100 * q + 0 + 0 ≤ 7293034; omega⟩) hS (fun q _ h => hFc q h) hFc (fun r0 r_358 t H locs ht hvm hw hB hz1 hk1 hS => ?_)
        clear hvm hz1 hk1
        subst hw
        obtain ⟨ym_359, gm_359, hgm_359, hggm_359, hJ, hT⟩ := hB
        rw [ht] at hT
        have hI := hI.ag hgm_359 (by decide)
        have hI := hI.agg hggm_359
        have hW : IW (v 1) (v 2) (v 9) (ym_359 (a 89)) := by rw [hgm_359.at (fx_89 hX) (by decide)]; exact hW
        have hTh : vb 38408 0 4800 (ym_359 (a 99)) := by rw [hgm_359.at (fx_99 hX) (by decide)]; exact hTh
        refine lv_pop hx hb dL_law_1177 rfl ?_
        refine lv_goto (tgt := 1360) hx hb dL_law_1178 (by decide) ?_
        obtain ⟨x_360, ex_360⟩ : ∃ y : Int32, y = i4 + Int32.ofInt 10 := ⟨_, rfl⟩
        have hx_360 := z_add ex_360 rfl (zk (x := Int32.ofInt 10) 10 rfl) (by omega) (by omega)
        refine lv_iinc (v := x_360) (lv' := [(4, .int x_360), (0, .ref b), (1, .ref (a 0)), (2, .ref (a 50)), (3, .ref (a 49))]) hx hb dL_law_1360 hl (k := 4) rfl ex_360.symm (by decide) rfl (fun ls hl => ?_)
        refine lv_goto (tgt := 23) hx hb dL_law_1363 (by decide) ?_
        refine W.widen (k := 200 + 4 * (q + 1)) (n := 60000 + 100 * (q + 1)) (by omega) (by omega) ?_
        exact ih (q + 1) x_360 tm_355 lm_355 ym_359 gm_359 um_355 v H _ ls (by omega) hF hI hJ hW hTh (by omega) (by omega) (by omega) (by omega) (by omega) hT hS (lv_sub hl [1, 2, 3, 4, 0] rfl)
      · refine lq_top (v := 25) t_5 ?_
        have nt_5 := z_eq rfl (zk (x := 25) 25 rfl) t_5
        refine lv_tableIn (tgt := 1181) hx hb dL_law_40 (by decide) (by decide) (off := 1141) (by decide) (by decide) ?_
        refine lv_aload_n hx hb dL_law_1181 rfl (lv_at hl 1 rfl) ?_
        refine lv_aload_n hx hb dL_law_1182 rfl (lv_at hl 0 rfl) ?_
        refine lv_iload hx hb dL_law_1183 (lv_at hl 4 rfl) ?_
        refine lv_iconst (v := 1) hx hb dL_law_1185 (by decide) ?_
        refine lv_iadd hx hb dL_law_1186 ?_
        refine lv_topi (fun x_361 ex_361 => ?_)
        have hx_361 := z_add ex_361 rfl (zk (x := 1) 1 rfl) (by omega) (by omega)
        refine va_sld hx hb hXs hbl hbA hS (z_in rfl (by omega) (by omega)) dL_law_1187 ?_
        refine lq_top (v := s1) (by rw [hs1]; exact congrArg xs (by rw [z_nat (x := x_361) rfl]; omega)) ?_
        refine lv_aload_n hx hb dL_law_1188 rfl (lv_at hl 0 rfl) ?_
        refine lv_iload hx hb dL_law_1189 (lv_at hl 4 rfl) ?_
        refine lv_iconst (v := 2) hx hb dL_law_1191 (by decide) ?_
        refine lv_iadd hx hb dL_law_1192 ?_
        refine lv_topi (fun x_362 ex_362 => ?_)
        have hx_362 := z_add ex_362 rfl (zk (x := 2) 2 rfl) (by omega) (by omega)
        refine va_sld hx hb hXs hbl hbA hS (z_in rfl (by omega) (by omega)) dL_law_1193 ?_
        refine lq_top (v := s2) (by rw [hs2]; exact congrArg xs (by rw [z_nat (x := x_362) rfl]; omega)) ?_
        have hFc := tw_free hF hS hA
        refine va_calli (va_runV (As := [.int s1, .int s2]) (rest := []) ⟨hx, hb, hml, hown, hts⟩ (c_plan l dC dI ad av H.size a k τ ln y g u s1 s2 hI ) (cwV 2 hts (gi_4 (im_law _ (List.mem_of_getElem? (i := 149) rfl)) (im_law _ (List.mem_of_getElem? (i := 150) rfl)) (im_law _ (List.mem_of_getElem? (i := 151) rfl)) (im_law _ (List.mem_of_getElem? (i := 3) rfl)) im_c_plan gd_c_plan) rfl rfl rfl (by decide +kernel) ⟨Nat.le_of_ble_eq_true rfl, Nat.le_of_ble_eq_true rfl⟩) ⟨pw_blind, tw_recv hK hT (fx_0 hX) (by decide) cl_e10 rfl, pw_use hT hK hFc hS hM⟩ rfl rfl hl.1 rfl (lv_room (Nat.le_of_ble_eq_true rfl)) dL_law_1194 ⟨by show 200 + 4 * q + 0 ≤ 601024; omega, by show 60000 + 100 * q + 0 ≤ 7293034; omega⟩) hS (fun q _ h => hFc q h) hFc (fun r0 r_363 t H locs ht hvm hw hB hz1 hk1 hS => ?_)
        clear hvm hz1 hk1
        subst hw
        obtain ⟨um_364, hum_364, ⟨tm_364, lm_364, ym_364, gm_364, hMo, hKM, hI, hT⟩⟩ := hB
        rw [ht] at hT
        have hF : ∀ q, tm_364 q ≠ 0 → s.heap.size ≤ q := fun q h => hFc q (hMo.2 q h)
        have hJ := hJ.kp hKM hI.1
        have hW : IW (v 1) (v 2) (v 9) (ym_364 (a 89)) := by rw [hKM.fx hX (j := 89) (by decide) (by decide)]; exact hW
        have hTh : vb 38408 0 4800 (ym_364 (a 99)) := by rw [hKM.fx hX (j := 99) (by decide) (by decide)]; exact hTh
        have hX := hI.1
        have : um_364 8 = u 8 := hum_364 8 (by decide)
        refine lv_pop hx hb dL_law_1197 rfl ?_
        refine lv_aload_n hx hb dL_law_1198 rfl (lv_at hl 2 rfl) ?_
        refine lv_aload_n hx hb dL_law_1199 rfl (lv_at hl 0 rfl) ?_
        refine lv_iload hx hb dL_law_1200 (lv_at hl 4 rfl) ?_
        refine lv_iconst (v := 1) hx hb dL_law_1202 (by decide) ?_
        refine lv_iadd hx hb dL_law_1203 ?_
        refine lv_topi (fun x_365 ex_365 => ?_)
        have hx_365 := z_add ex_365 rfl (zk (x := 1) 1 rfl) (by omega) (by omega)
        refine va_sld hx hb hXs hbl hbA hS (z_in rfl (by omega) (by omega)) dL_law_1204 ?_
        refine lq_top (v := s1) (by rw [hs1]; exact congrArg xs (by rw [z_nat (x := x_365) rfl]; omega)) ?_
        refine lv_aload_n hx hb dL_law_1205 rfl (lv_at hl 0 rfl) ?_
        refine lv_iload hx hb dL_law_1206 (lv_at hl 4 rfl) ?_
        refine lv_iconst (v := 2) hx hb dL_law_1208 (by decide) ?_
        refine lv_iadd hx hb dL_law_1209 ?_
        refine lv_topi (fun x_366 ex_366 => ?_)
        have hx_366 := z_add ex_366 rfl (zk (x := 2) 2 rfl) (by omega) (by omega)
        refine va_sld hx hb hXs hbl hbA hS (z_in rfl (by omega) (by omega)) dL_law_1210 ?_
        refine lq_top (v := s2) (by rw [hs2]; exact congrArg xs (by rw [z_nat (x := x_366) rfl]; omega)) ?_
        have hFc := tw_free hF hS hA
        refine va_calli (va_runV (As := [.int s1, .int s2]) (rest := []) ⟨hx, hb, hml, hown, hts⟩ (m_plan l dC dI ad av H.size a k tm_364 lm_364 ym_364 gm_364 v s1 s2 hJ hTh hW) (cwV 2 hts (gi_4 (im_law _ (List.mem_of_getElem? (i := 152) rfl)) (im_law _ (List.mem_of_getElem? (i := 153) rfl)) (im_law _ (List.mem_of_getElem? (i := 154) rfl)) (im_law _ (List.mem_of_getElem? (i := 7) rfl)) im_m_plan gd_m_plan) rfl rfl rfl (by decide +kernel) ⟨Nat.le_of_ble_eq_true rfl, Nat.le_of_ble_eq_true rfl⟩) ⟨pw_blind, tw_recv hK hT (fx_50 hX) (by decide) cl_e60 rfl, pw_use hT hK hFc hS hM⟩ rfl rfl hl.1 rfl (lv_room (Nat.le_of_ble_eq_true rfl)) dL_law_1211 ⟨by show 200 + 4 * q + 0 + 0 ≤ 601024; omega, by show 60000 + 100 * q + 0 + 0 ≤ 7293034; omega⟩) hS (fun q _ h => hFc q h) hFc (fun r0 r_367 t H locs ht hvm hw hB hz1 hk1 hS => ?_)
        clear hvm hz1 hk1
        subst hw
        obtain ⟨um_368, ym_368, gm_368, hum_368, hgm_368, hggm_368, hJ, hf_369, hT⟩ := hB
        rw [ht] at hT
        have hI := hI.ag hgm_368 (by decide)
        have hI := hI.agg hggm_368
        have hW : IW (um_368 1) (um_368 2) (um_368 9) (ym_368 (a 89)) := by rw [hgm_368.at (fx_89 hX) (by decide)]; exact iw_u hW (hum_368 1 (by decide)) (hum_368 2 (by decide)) (hum_368 9 (by decide))
        have hTh := hf_369
        have : um_368 8 = v 8 := hum_368 8 (by decide)
        have : um_368 3 = v 3 := hum_368 3 (by decide)
        have : um_368 10 = v 10 := hum_368 10 (by decide)
        refine lv_pop hx hb dL_law_1214 rfl ?_
        refine lv_goto (tgt := 1360) hx hb dL_law_1215 (by decide) ?_
        obtain ⟨x_370, ex_370⟩ : ∃ y : Int32, y = i4 + Int32.ofInt 10 := ⟨_, rfl⟩
        have hx_370 := z_add ex_370 rfl (zk (x := Int32.ofInt 10) 10 rfl) (by omega) (by omega)
        refine lv_iinc (v := x_370) (lv' := [(4, .int x_370), (0, .ref b), (1, .ref (a 0)), (2, .ref (a 50)), (3, .ref (a 49))]) hx hb dL_law_1360 hl (k := 4) rfl ex_370.symm (by decide) rfl (fun ls hl => ?_)
        refine lv_goto (tgt := 23) hx hb dL_law_1363 (by decide) ?_
        refine W.widen (k := 200 + 4 * (q + 1)) (n := 60000 + 100 * (q + 1)) (by omega) (by omega) ?_
        exact ih (q + 1) x_370 tm_364 lm_364 ym_368 gm_368 um_364 um_368 H _ ls (by omega) hF hI hJ hW hTh (by omega) (by omega) (by omega) (by omega) (by omega) hT hS (lv_sub hl [1, 2, 3, 4, 0] rfl)
      · refine lq_top (v := 26) t_5 ?_
        have nt_5 := z_eq rfl (zk (x := 26) 26 rfl) t_5
        refine lv_tableIn (tgt := 1218) hx hb dL_law_40 (by decide) (by decide) (off := 1178) (by decide) (by decide) ?_
        refine lv_aload_n hx hb dL_law_1218 rfl (lv_at hl 1 rfl) ?_
        refine lv_aload_n hx hb dL_law_1219 rfl (lv_at hl 0 rfl) ?_
        refine lv_iload hx hb dL_law_1220 (lv_at hl 4 rfl) ?_
        refine lv_iconst (v := 1) hx hb dL_law_1222 (by decide) ?_
        refine lv_iadd hx hb dL_law_1223 ?_
        refine lv_topi (fun x_371 ex_371 => ?_)
        have hx_371 := z_add ex_371 rfl (zk (x := 1) 1 rfl) (by omega) (by omega)
        refine va_sld hx hb hXs hbl hbA hS (z_in rfl (by omega) (by omega)) dL_law_1224 ?_
        refine lq_top (v := s1) (by rw [hs1]; exact congrArg xs (by rw [z_nat (x := x_371) rfl]; omega)) ?_
        refine lv_aload_n hx hb dL_law_1225 rfl (lv_at hl 0 rfl) ?_
        refine lv_iload hx hb dL_law_1226 (lv_at hl 4 rfl) ?_
        refine lv_iconst (v := 2) hx hb dL_law_1228 (by decide) ?_
        refine lv_iadd hx hb dL_law_1229 ?_
        refine lv_topi (fun x_372 ex_372 => ?_)
        have hx_372 := z_add ex_372 rfl (zk (x := 2) 2 rfl) (by omega) (by omega)
        refine va_sld hx hb hXs hbl hbA hS (z_in rfl (by omega) (by omega)) dL_law_1230 ?_
        refine lq_top (v := s2) (by rw [hs2]; exact congrArg xs (by rw [z_nat (x := x_372) rfl]; omega)) ?_
        have hFc := tw_free hF hS hA
        refine va_calli (va_runV (As := [.int s1, .int s2]) (rest := []) ⟨hx, hb, hml, hown, hts⟩ (c_lateness l dC dI ad av H.size a k τ ln y g u s1 s2 hI ) (cwV 2 hts (gi_4 (im_law _ (List.mem_of_getElem? (i := 155) rfl)) (im_law _ (List.mem_of_getElem? (i := 156) rfl)) (im_law _ (List.mem_of_getElem? (i := 157) rfl)) (im_law _ (List.mem_of_getElem? (i := 3) rfl)) im_c_lateness gd_c_lateness) rfl rfl rfl (by decide +kernel) ⟨Nat.le_of_ble_eq_true rfl, Nat.le_of_ble_eq_true rfl⟩) ⟨pw_blind, tw_recv hK hT (fx_0 hX) (by decide) cl_e10 rfl, pw_use hT hK hFc hS hM⟩ rfl rfl hl.1 rfl (lv_room (Nat.le_of_ble_eq_true rfl)) dL_law_1231 ⟨by show 200 + 4 * q + 0 ≤ 601024; omega, by show 60000 + 100 * q + 0 ≤ 7293034; omega⟩) hS (fun q _ h => hFc q h) hFc (fun r0 r_373 t H locs ht hvm hw hB hz1 hk1 hS => ?_)
        clear hvm hz1 hk1
        subst hw
        obtain ⟨um_374, hum_374, ⟨tm_374, lm_374, ym_374, gm_374, hMo, hKM, hI, hT⟩⟩ := hB
        rw [ht] at hT
        have hF : ∀ q, tm_374 q ≠ 0 → s.heap.size ≤ q := fun q h => hFc q (hMo.2 q h)
        have hJ := hJ.kp hKM hI.1
        have hW : IW (v 1) (v 2) (v 9) (ym_374 (a 89)) := by rw [hKM.fx hX (j := 89) (by decide) (by decide)]; exact hW
        have hTh : vb 38408 0 4800 (ym_374 (a 99)) := by rw [hKM.fx hX (j := 99) (by decide) (by decide)]; exact hTh
        have hX := hI.1
        have : um_374 8 = u 8 := hum_374 8 (by decide)
        refine lv_pop hx hb dL_law_1234 rfl ?_
        refine lv_aload_n hx hb dL_law_1235 rfl (lv_at hl 2 rfl) ?_
        refine lv_aload_n hx hb dL_law_1236 rfl (lv_at hl 0 rfl) ?_
        refine lv_iload hx hb dL_law_1237 (lv_at hl 4 rfl) ?_
        refine lv_iconst (v := 1) hx hb dL_law_1239 (by decide) ?_
        refine lv_iadd hx hb dL_law_1240 ?_
        refine lv_topi (fun x_375 ex_375 => ?_)
        have hx_375 := z_add ex_375 rfl (zk (x := 1) 1 rfl) (by omega) (by omega)
        refine va_sld hx hb hXs hbl hbA hS (z_in rfl (by omega) (by omega)) dL_law_1241 ?_
        refine lq_top (v := s1) (by rw [hs1]; exact congrArg xs (by rw [z_nat (x := x_375) rfl]; omega)) ?_
        refine lv_aload_n hx hb dL_law_1242 rfl (lv_at hl 0 rfl) ?_
        refine lv_iload hx hb dL_law_1243 (lv_at hl 4 rfl) ?_
        refine lv_iconst (v := 2) hx hb dL_law_1245 (by decide) ?_
        refine lv_iadd hx hb dL_law_1246 ?_
        refine lv_topi (fun x_376 ex_376 => ?_)
        have hx_376 := z_add ex_376 rfl (zk (x := 2) 2 rfl) (by omega) (by omega)
        refine va_sld hx hb hXs hbl hbA hS (z_in rfl (by omega) (by omega)) dL_law_1247 ?_
        refine lq_top (v := s2) (by rw [hs2]; exact congrArg xs (by rw [z_nat (x := x_376) rfl]; omega)) ?_
        have hFc := tw_free hF hS hA
        refine va_calli (va_runV (As := [.int s1, .int s2]) (rest := []) ⟨hx, hb, hml, hown, hts⟩ (m_lateness l dC dI ad av H.size a k tm_374 lm_374 ym_374 gm_374 v s1 s2 hJ hTh hW) (cwV 2 hts (gi_4 (im_law _ (List.mem_of_getElem? (i := 158) rfl)) (im_law _ (List.mem_of_getElem? (i := 159) rfl)) (im_law _ (List.mem_of_getElem? (i := 160) rfl)) (im_law _ (List.mem_of_getElem? (i := 7) rfl)) im_m_lateness gd_m_lateness) rfl rfl rfl (by decide +kernel) ⟨Nat.le_of_ble_eq_true rfl, Nat.le_of_ble_eq_true rfl⟩) ⟨pw_blind, tw_recv hK hT (fx_50 hX) (by decide) cl_e60 rfl, pw_use hT hK hFc hS hM⟩ rfl rfl hl.1 rfl (lv_room (Nat.le_of_ble_eq_true rfl)) dL_law_1248 ⟨by show 200 + 4 * q + 0 + 0 ≤ 601024; omega, by show 60000 + 100 * q + 0 + 0 ≤ 7293034; omega⟩) hS (fun q _ h => hFc q h) hFc (fun r0 r_377 t H locs ht hvm hw hB hz1 hk1 hS => ?_)
        clear hvm hz1 hk1
        subst hw
        obtain ⟨ym_378, gm_378, hgm_378, hggm_378, hJ, hf_379, hT⟩ := hB
        rw [ht] at hT
        have hI := hI.ag hgm_378 (by decide)
        have hI := hI.agg hggm_378
        have hW : IW (v 1) (v 2) (v 9) (ym_378 (a 89)) := by rw [hgm_378.at (fx_89 hX) (by decide)]; exact hW
        have hTh := hf_379
        refine lv_pop hx hb dL_law_1251 rfl ?_
        refine lv_goto (tgt := 1360) hx hb dL_law_1252 (by decide) ?_
        obtain ⟨x_380, ex_380⟩ : ∃ y : Int32, y = i4 + Int32.ofInt 10 := ⟨_, rfl⟩
        have hx_380 := z_add ex_380 rfl (zk (x := Int32.ofInt 10) 10 rfl) (by omega) (by omega)
        refine lv_iinc (v := x_380) (lv' := [(4, .int x_380), (0, .ref b), (1, .ref (a 0)), (2, .ref (a 50)), (3, .ref (a 49))]) hx hb dL_law_1360 hl (k := 4) rfl ex_380.symm (by decide) rfl (fun ls hl => ?_)
        refine lv_goto (tgt := 23) hx hb dL_law_1363 (by decide) ?_
        refine W.widen (k := 200 + 4 * (q + 1)) (n := 60000 + 100 * (q + 1)) (by omega) (by omega) ?_
        exact ih (q + 1) x_380 tm_374 lm_374 ym_378 gm_378 um_374 v H _ ls (by omega) hF hI hJ hW hTh (by omega) (by omega) (by omega) (by omega) (by omega) hT hS (lv_sub hl [1, 2, 3, 4, 0] rfl)
      · refine lq_top (v := 27) t_5 ?_
        have nt_5 := z_eq rfl (zk (x := 27) 27 rfl) t_5
        refine lv_tableIn (tgt := 1255) hx hb dL_law_40 (by decide) (by decide) (off := 1215) (by decide) (by decide) ?_
        refine lv_aload_n hx hb dL_law_1255 rfl (lv_at hl 1 rfl) ?_
        refine lv_aload_n hx hb dL_law_1256 rfl (lv_at hl 0 rfl) ?_
        refine lv_iload hx hb dL_law_1257 (lv_at hl 4 rfl) ?_
        refine lv_iconst (v := 1) hx hb dL_law_1259 (by decide) ?_
        refine lv_iadd hx hb dL_law_1260 ?_
        refine lv_topi (fun x_381 ex_381 => ?_)
        have hx_381 := z_add ex_381 rfl (zk (x := 1) 1 rfl) (by omega) (by omega)
        refine va_sld hx hb hXs hbl hbA hS (z_in rfl (by omega) (by omega)) dL_law_1261 ?_
        refine lq_top (v := s1) (by rw [hs1]; exact congrArg xs (by rw [z_nat (x := x_381) rfl]; omega)) ?_
        refine lv_aload_n hx hb dL_law_1262 rfl (lv_at hl 0 rfl) ?_
        refine lv_iload hx hb dL_law_1263 (lv_at hl 4 rfl) ?_
        refine lv_iconst (v := 2) hx hb dL_law_1265 (by decide) ?_
        refine lv_iadd hx hb dL_law_1266 ?_
        refine lv_topi (fun x_382 ex_382 => ?_)
        have hx_382 := z_add ex_382 rfl (zk (x := 2) 2 rfl) (by omega) (by omega)
        refine va_sld hx hb hXs hbl hbA hS (z_in rfl (by omega) (by omega)) dL_law_1267 ?_
        refine lq_top (v := s2) (by rw [hs2]; exact congrArg xs (by rw [z_nat (x := x_382) rfl]; omega)) ?_
        have hFc := tw_free hF hS hA
        refine va_calli (va_runV (As := [.int s1, .int s2]) (rest := []) ⟨hx, hb, hml, hown, hts⟩ (c_tried l dC dI ad av H.size a k τ ln y g u s1 s2 hI ) (cwV 2 hts (gi_4 (im_law _ (List.mem_of_getElem? (i := 161) rfl)) (im_law _ (List.mem_of_getElem? (i := 162) rfl)) (im_law _ (List.mem_of_getElem? (i := 163) rfl)) (im_law _ (List.mem_of_getElem? (i := 3) rfl)) im_c_tried gd_c_tried) rfl rfl rfl (by decide +kernel) ⟨Nat.le_of_ble_eq_true rfl, Nat.le_of_ble_eq_true rfl⟩) ⟨pw_blind, tw_recv hK hT (fx_0 hX) (by decide) cl_e10 rfl, pw_use hT hK hFc hS hM⟩ rfl rfl hl.1 rfl (lv_room (Nat.le_of_ble_eq_true rfl)) dL_law_1268 ⟨by show 200 + 4 * q + 0 ≤ 601024; omega, by show 60000 + 100 * q + 0 ≤ 7293034; omega⟩) hS (fun q _ h => hFc q h) hFc (fun r0 r_383 t H locs ht hvm hw hB hz1 hk1 hS => ?_)
        clear hvm hz1 hk1
        subst hw
        obtain ⟨um_384, hum_384, ⟨tm_384, lm_384, ym_384, gm_384, hMo, hKM, hI, hT⟩⟩ := hB
        rw [ht] at hT
        have hF : ∀ q, tm_384 q ≠ 0 → s.heap.size ≤ q := fun q h => hFc q (hMo.2 q h)
        have hJ := hJ.kp hKM hI.1
        have hW : IW (v 1) (v 2) (v 9) (ym_384 (a 89)) := by rw [hKM.fx hX (j := 89) (by decide) (by decide)]; exact hW
        have hTh : vb 38408 0 4800 (ym_384 (a 99)) := by rw [hKM.fx hX (j := 99) (by decide) (by decide)]; exact hTh
        have hX := hI.1
        have : um_384 8 = u 8 := hum_384 8 (by decide)
        refine lv_pop hx hb dL_law_1271 rfl ?_
        refine lv_aload_n hx hb dL_law_1272 rfl (lv_at hl 2 rfl) ?_
        refine lv_aload_n hx hb dL_law_1273 rfl (lv_at hl 0 rfl) ?_
        refine lv_iload hx hb dL_law_1274 (lv_at hl 4 rfl) ?_
        refine lv_iconst (v := 1) hx hb dL_law_1276 (by decide) ?_
        refine lv_iadd hx hb dL_law_1277 ?_
        refine lv_topi (fun x_385 ex_385 => ?_)
        have hx_385 := z_add ex_385 rfl (zk (x := 1) 1 rfl) (by omega) (by omega)
        refine va_sld hx hb hXs hbl hbA hS (z_in rfl (by omega) (by omega)) dL_law_1278 ?_
        refine lq_top (v := s1) (by rw [hs1]; exact congrArg xs (by rw [z_nat (x := x_385) rfl]; omega)) ?_
        refine lv_aload_n hx hb dL_law_1279 rfl (lv_at hl 0 rfl) ?_
        refine lv_iload hx hb dL_law_1280 (lv_at hl 4 rfl) ?_
        refine lv_iconst (v := 2) hx hb dL_law_1282 (by decide) ?_
        refine lv_iadd hx hb dL_law_1283 ?_
        refine lv_topi (fun x_386 ex_386 => ?_)
        have hx_386 := z_add ex_386 rfl (zk (x := 2) 2 rfl) (by omega) (by omega)
        refine va_sld hx hb hXs hbl hbA hS (z_in rfl (by omega) (by omega)) dL_law_1284 ?_
        refine lq_top (v := s2) (by rw [hs2]; exact congrArg xs (by rw [z_nat (x := x_386) rfl]; omega)) ?_
        have hFc := tw_free hF hS hA
        refine va_calli (va_runV (As := [.int s1, .int s2]) (rest := []) ⟨hx, hb, hml, hown, hts⟩ (m_tried l dC dI ad av H.size a k tm_384 lm_384 ym_384 gm_384 v s1 s2 hJ h10 hW) (cwV 2 hts (gi_4 (im_law _ (List.mem_of_getElem? (i := 164) rfl)) (im_law _ (List.mem_of_getElem? (i := 165) rfl)) (im_law _ (List.mem_of_getElem? (i := 166) rfl)) (im_law _ (List.mem_of_getElem? (i := 7) rfl)) im_m_tried gd_m_tried) rfl rfl rfl (by decide +kernel) ⟨Nat.le_of_ble_eq_true rfl, Nat.le_of_ble_eq_true rfl⟩) ⟨pw_blind, tw_recv hK hT (fx_50 hX) (by decide) cl_e60 rfl, pw_use hT hK hFc hS hM⟩ rfl rfl hl.1 rfl (lv_room (Nat.le_of_ble_eq_true rfl)) dL_law_1285 ⟨by show 200 + 4 * q + 0 + 0 ≤ 601024; omega, by show 60000 + 100 * q + 0 + 0 ≤ 7293034; omega⟩) hS (fun q _ h => hFc q h) hFc (fun r0 r_387 t H locs ht hvm hw hB hz1 hk1 hS => ?_)
        clear hvm hz1 hk1
        subst hw
        obtain ⟨um_388, ym_388, gm_388, hum_388, hgm_388, hggm_388, hJ, hW, hf_389, hf_390, hT⟩ := hB
        rw [ht] at hT
        have hI := hI.ag hgm_388 (by decide)
        have hI := hI.agg hggm_388
        have hTh : vb 38408 0 4800 (ym_388 (a 99)) := by rw [hgm_388.at (fx_99 hX) (by decide)]; exact hTh
        have : um_388 8 = v 8 := hum_388 8 (by decide)
        have : um_388 3 = v 3 := hum_388 3 (by decide)
        refine lv_pop hx hb dL_law_1288 rfl ?_
        refine lv_goto (tgt := 1360) hx hb dL_law_1289 (by decide) ?_
        obtain ⟨x_391, ex_391⟩ : ∃ y : Int32, y = i4 + Int32.ofInt 10 := ⟨_, rfl⟩
        have hx_391 := z_add ex_391 rfl (zk (x := Int32.ofInt 10) 10 rfl) (by omega) (by omega)
        refine lv_iinc (v := x_391) (lv' := [(4, .int x_391), (0, .ref b), (1, .ref (a 0)), (2, .ref (a 50)), (3, .ref (a 49))]) hx hb dL_law_1360 hl (k := 4) rfl ex_391.symm (by decide) rfl (fun ls hl => ?_)
        refine lv_goto (tgt := 23) hx hb dL_law_1363 (by decide) ?_
        refine W.widen (k := 200 + 4 * (q + 1)) (n := 60000 + 100 * (q + 1)) (by omega) (by omega) ?_
        exact ih (q + 1) x_391 tm_384 lm_384 ym_388 gm_388 um_384 um_388 H _ ls (by omega) hF hI hJ hW hTh (by omega) (by omega) (by omega) (by omega) (by omega) hT hS (lv_sub hl [1, 2, 3, 4, 0] rfl)
      · refine lq_top (v := 28) t_5 ?_
        have nt_5 := z_eq rfl (zk (x := 28) 28 rfl) t_5
        refine lv_tableIn (tgt := 1292) hx hb dL_law_40 (by decide) (by decide) (off := 1252) (by decide) (by decide) ?_
        refine lv_aload_n hx hb dL_law_1292 rfl (lv_at hl 1 rfl) ?_
        refine lv_aload_n hx hb dL_law_1293 rfl (lv_at hl 0 rfl) ?_
        refine lv_iload hx hb dL_law_1294 (lv_at hl 4 rfl) ?_
        refine lv_iconst (v := 1) hx hb dL_law_1296 (by decide) ?_
        refine lv_iadd hx hb dL_law_1297 ?_
        refine lv_topi (fun x_392 ex_392 => ?_)
        have hx_392 := z_add ex_392 rfl (zk (x := 1) 1 rfl) (by omega) (by omega)
        refine va_sld hx hb hXs hbl hbA hS (z_in rfl (by omega) (by omega)) dL_law_1298 ?_
        refine lq_top (v := s1) (by rw [hs1]; exact congrArg xs (by rw [z_nat (x := x_392) rfl]; omega)) ?_
        refine lv_aload_n hx hb dL_law_1299 rfl (lv_at hl 0 rfl) ?_
        refine lv_iload hx hb dL_law_1300 (lv_at hl 4 rfl) ?_
        refine lv_iconst (v := 2) hx hb dL_law_1302 (by decide) ?_
        refine lv_iadd hx hb dL_law_1303 ?_
        refine lv_topi (fun x_393 ex_393 => ?_)
        have hx_393 := z_add ex_393 rfl (zk (x := 2) 2 rfl) (by omega) (by omega)
        refine va_sld hx hb hXs hbl hbA hS (z_in rfl (by omega) (by omega)) dL_law_1304 ?_
        refine lq_top (v := s2) (by rw [hs2]; exact congrArg xs (by rw [z_nat (x := x_393) rfl]; omega)) ?_
        refine lv_aload_n hx hb dL_law_1305 rfl (lv_at hl 3 rfl) ?_
        have hFc := tw_free hF hS hA
        refine va_calli (vx_runSW (As := [.ref (a 0), .int s1, .int s2, .ref (a 49)]) (rest := []) ⟨hx, hb, hml, hown, hts⟩ (k_ill l hst dC dI ad av H.size a k τ ln y g u s1 s2 hI ) (vx_cwSW 4 hts (gi_3 (im_law _ (List.mem_of_getElem? (i := 167) rfl)) (im_law _ (List.mem_of_getElem? (i := 168) rfl)) (im_law _ (List.mem_of_getElem? (i := 52) rfl)) im_k_ill gd_k_ill) rfl rfl rfl (by decide +kernel) ⟨Nat.le_of_ble_eq_true rfl, Nat.le_of_ble_eq_true rfl⟩) ⟨pw_blind, pw_use hT hK hFc hS hM⟩ rfl rfl hl.1 rfl (lv_room (Nat.le_of_ble_eq_true rfl)) dL_law_1306 ⟨by show 200 + 4 * q + 1 ≤ 601024; omega, by show 60000 + 100 * q + 6 ≤ 7293034; omega⟩) hS (fun q _ h => hFc q h) hFc (fun r0 r_394 t H locs ht hvm hw hB hz1 hk1 hS => ?_)
        clear hvm hz1 hk1
        subst hw
        obtain ⟨um_395, hum_395, ⟨tm_395, lm_395, ym_395, gm_395, hMo, hKM, hI, hT⟩⟩ := hB
        rw [ht] at hT
        have hF : ∀ q, tm_395 q ≠ 0 → s.heap.size ≤ q := fun q h => hFc q (hMo.2 q h)
        have hJ := hJ.kp hKM hI.1
        have hW : IW (v 1) (v 2) (v 9) (ym_395 (a 89)) := by rw [hKM.fx hX (j := 89) (by decide) (by decide)]; exact hW
        have hTh : vb 38408 0 4800 (ym_395 (a 99)) := by rw [hKM.fx hX (j := 99) (by decide) (by decide)]; exact hTh
        have hX := hI.1
        have : um_395 8 = u 8 := hum_395 8 (by decide)
        refine lv_istore (lv' := [(5, .int r_394), (0, .ref b), (1, .ref (a 0)), (2, .ref (a 50)), (3, .ref (a 49)), (4, .int i4)]) hx hb dL_law_1309 hl (by decide) rfl (fun ls hl => ?_)
        refine lv_aload_n hx hb dL_law_1311 rfl (lv_at hl 3 rfl) ?_
        refine lv_aload_n hx hb dL_law_1312 rfl (lv_at hl 1 rfl) ?_
        refine lv_iload hx hb dL_law_1313 (lv_at hl 5 rfl) ?_
        refine lv_iconst (v := 1) hx hb dL_law_1315 (by decide) ?_
        refine lv_iadd hx hb dL_law_1316 ?_
        refine lv_topi (fun x_396 ex_396 => ?_)
        have hx_396 := z_add ex_396 rfl (zk (x := 1) 1 rfl) (by omega) (by omega)
        refine va_sld hx hb hXs hbl hbA hS (z_in rfl (by omega) (by omega)) dL_law_1317 ?_
        refine lq_top (v := s1) (by rw [hs1]; exact congrArg xs (by rw [z_nat (x := x_396) rfl]; omega)) ?_
        refine lv_aload_n hx hb dL_law_1318 rfl (lv_at hl 1 rfl) ?_
        refine lv_iload hx hb dL_law_1319 (lv_at hl 5 rfl) ?_
        refine lv_iconst (v := 2) hx hb dL_law_1321 (by decide) ?_
        refine lv_iadd hx hb dL_law_1322 ?_
        refine lv_topi (fun x_397 ex_397 => ?_)
        have hx_397 := z_add ex_397 rfl (zk (x := 2) 2 rfl) (by omega) (by omega)
        refine va_sld hx hb hXs hbl hbA hS (z_in rfl (by omega) (by omega)) dL_law_1323 ?_
        refine lq_top (v := s2) (by rw [hs2]; exact congrArg xs (by rw [z_nat (x := x_397) rfl]; omega)) ?_
        have hFc := tw_free hF hS hA
        refine va_calli (va_runV (As := [.int s1, .int s2]) (rest := []) ⟨hx, hb, hml, hown, hts⟩ (m_ill l dC dI ad av H.size a k tm_395 lm_395 ym_395 gm_395 v s1 s2 hJ h3 hW) (cwV 2 hts (gi_4 (im_law _ (List.mem_of_getElem? (i := 169) rfl)) (im_law _ (List.mem_of_getElem? (i := 170) rfl)) (im_law _ (List.mem_of_getElem? (i := 171) rfl)) (im_law _ (List.mem_of_getElem? (i := 7) rfl)) im_m_ill gd_m_ill) rfl rfl rfl (by decide +kernel) ⟨Nat.le_of_ble_eq_true rfl, Nat.le_of_ble_eq_true rfl⟩) ⟨pw_blind, tw_recv hK hT (fx_50 hX) (by decide) cl_e60 rfl, pw_use hT hK hFc hS hM⟩ rfl rfl hl.1 rfl (lv_room (Nat.le_of_ble_eq_true rfl)) dL_law_1324 ⟨by show 200 + 4 * q + 1 + 0 ≤ 601024; omega, by show 60000 + 100 * q + 6 + 0 ≤ 7293034; omega⟩) hS (fun q _ h => hFc q h) hFc (fun r0 r_398 t H locs ht hvm hw hB hz1 hk1 hS => ?_)
        clear hvm hz1 hk1
        subst hw
        obtain ⟨um_399, ym_399, gm_399, hum_399, hgm_399, hggm_399, hJ, hW, hf_400, hf_401, hT⟩ := hB
        rw [ht] at hT
        have hI := hI.ag hgm_399 (by decide)
        have hI := hI.agg hggm_399
        have hTh : vb 38408 0 4800 (ym_399 (a 99)) := by rw [hgm_399.at (fx_99 hX) (by decide)]; exact hTh
        have : um_399 8 = v 8 := hum_399 8 (by decide)
        have : um_399 10 = v 10 := hum_399 10 (by decide)
        refine lv_istore (lv' := [(6, .int r_398), (5, .int r_394), (0, .ref b), (1, .ref (a 0)), (2, .ref (a 50)), (3, .ref (a 49)), (4, .int i4)]) hx hb dL_law_1327 hl (by decide) rfl (fun ls hl => ?_)
        refine lv_goto (tgt := 1360) hx hb dL_law_1329 (by decide) ?_
        obtain ⟨x_402, ex_402⟩ : ∃ y : Int32, y = i4 + Int32.ofInt 10 := ⟨_, rfl⟩
        have hx_402 := z_add ex_402 rfl (zk (x := Int32.ofInt 10) 10 rfl) (by omega) (by omega)
        refine lv_iinc (v := x_402) (lv' := [(4, .int x_402), (6, .int r_398), (5, .int r_394), (0, .ref b), (1, .ref (a 0)), (2, .ref (a 50)), (3, .ref (a 49))]) hx hb dL_law_1360 hl (k := 6) rfl ex_402.symm (by decide) rfl (fun ls hl => ?_)
        refine lv_goto (tgt := 23) hx hb dL_law_1363 (by decide) ?_
        refine W.widen (k := 200 + 4 * (q + 1)) (n := 60000 + 100 * (q + 1)) (by omega) (by omega) ?_
        exact ih (q + 1) x_402 tm_395 lm_395 ym_399 gm_399 um_395 um_399 H _ ls (by omega) hF hI hJ hW hTh (by omega) (by omega) (by omega) (by omega) (by omega) hT hS (lv_sub hl [3, 4, 5, 6, 0] rfl)
      · refine lq_top (v := 29) t_5 ?_
        have nt_5 := z_eq rfl (zk (x := 29) 29 rfl) t_5
        refine lv_tableIn (tgt := 1332) hx hb dL_law_40 (by decide) (by decide) (off := 1292) (by decide) (by decide) ?_
        refine lv_aload_n hx hb dL_law_1332 rfl (lv_at hl 1 rfl) ?_
        refine lv_aload_n hx hb dL_law_1333 rfl (lv_at hl 0 rfl) ?_
        refine lv_iload hx hb dL_law_1334 (lv_at hl 4 rfl) ?_
        refine lv_iconst (v := 1) hx hb dL_law_1336 (by decide) ?_
        refine lv_iadd hx hb dL_law_1337 ?_
        refine lv_topi (fun x_403 ex_403 => ?_)
        have hx_403 := z_add ex_403 rfl (zk (x := 1) 1 rfl) (by omega) (by omega)
        refine va_sld hx hb hXs hbl hbA hS (z_in rfl (by omega) (by omega)) dL_law_1338 ?_
        refine lq_top (v := s1) (by rw [hs1]; exact congrArg xs (by rw [z_nat (x := x_403) rfl]; omega)) ?_
        refine lv_aload_n hx hb dL_law_1339 rfl (lv_at hl 3 rfl) ?_
        have hFc := tw_free hF hS hA
        refine va_calli (vx_runSW (As := [.ref (a 0), .int s1, .ref (a 49)]) (rest := []) ⟨hx, hb, hml, hown, hts⟩ (k_row l hst dC dI ad av H.size a k τ ln y g u s1 hI ) (vx_cwSW 3 hts (gi_3 (im_law _ (List.mem_of_getElem? (i := 172) rfl)) (im_law _ (List.mem_of_getElem? (i := 173) rfl)) (im_law _ (List.mem_of_getElem? (i := 52) rfl)) im_k_row gd_k_row) rfl rfl rfl (by decide +kernel) ⟨Nat.le_of_ble_eq_true rfl, Nat.le_of_ble_eq_true rfl⟩) ⟨pw_blind, pw_use hT hK hFc hS hM⟩ rfl rfl hl.1 rfl (lv_room (Nat.le_of_ble_eq_true rfl)) dL_law_1340 ⟨by show 200 + 4 * q + 1 ≤ 601024; omega, by show 60000 + 100 * q + 6 ≤ 7293034; omega⟩) hS (fun q _ h => hFc q h) hFc (fun r0 r_404 t H locs ht hvm hw hB hz1 hk1 hS => ?_)
        clear hvm hz1 hk1
        subst hw
        obtain ⟨um_405, hum_405, ⟨tm_405, lm_405, ym_405, gm_405, hMo, hKM, hI, hT⟩⟩ := hB
        rw [ht] at hT
        have hF : ∀ q, tm_405 q ≠ 0 → s.heap.size ≤ q := fun q h => hFc q (hMo.2 q h)
        have hJ := hJ.kp hKM hI.1
        have hW : IW (v 1) (v 2) (v 9) (ym_405 (a 89)) := by rw [hKM.fx hX (j := 89) (by decide) (by decide)]; exact hW
        have hTh : vb 38408 0 4800 (ym_405 (a 99)) := by rw [hKM.fx hX (j := 99) (by decide) (by decide)]; exact hTh
        have hX := hI.1
        have : um_405 8 = u 8 := hum_405 8 (by decide)
        refine lv_istore (lv' := [(5, .int r_404), (0, .ref b), (1, .ref (a 0)), (2, .ref (a 50)), (3, .ref (a 49)), (4, .int i4)]) hx hb dL_law_1343 hl (by decide) rfl (fun ls hl => ?_)
        refine lv_aload_n hx hb dL_law_1345 rfl (lv_at hl 3 rfl) ?_
        refine lv_aload_n hx hb dL_law_1346 rfl (lv_at hl 1 rfl) ?_
        refine lv_iload hx hb dL_law_1347 (lv_at hl 5 rfl) ?_
        refine lv_iconst (v := 1) hx hb dL_law_1349 (by decide) ?_
        refine lv_iadd hx hb dL_law_1350 ?_
        refine lv_topi (fun x_406 ex_406 => ?_)
        have hx_406 := z_add ex_406 rfl (zk (x := 1) 1 rfl) (by omega) (by omega)
        refine va_sld hx hb hXs hbl hbA hS (z_in rfl (by omega) (by omega)) dL_law_1351 ?_
        refine lq_top (v := s1) (by rw [hs1]; exact congrArg xs (by rw [z_nat (x := x_406) rfl]; omega)) ?_
        have hFc := tw_free hF hS hA
        refine va_calli (va_runV (As := [.int s1]) (rest := []) ⟨hx, hb, hml, hown, hts⟩ (m_row l dC dI ad av H.size a k tm_405 lm_405 ym_405 gm_405 v s1 hJ hW) (cwV 1 hts (gi_4 (im_law _ (List.mem_of_getElem? (i := 174) rfl)) (im_law _ (List.mem_of_getElem? (i := 175) rfl)) (im_law _ (List.mem_of_getElem? (i := 176) rfl)) (im_law _ (List.mem_of_getElem? (i := 7) rfl)) im_m_row gd_m_row) rfl rfl rfl (by decide +kernel) ⟨Nat.le_of_ble_eq_true rfl, Nat.le_of_ble_eq_true rfl⟩) ⟨pw_blind, tw_recv hK hT (fx_50 hX) (by decide) cl_e60 rfl, pw_use hT hK hFc hS hM⟩ rfl rfl hl.1 rfl (lv_room (Nat.le_of_ble_eq_true rfl)) dL_law_1352 ⟨by show 200 + 4 * q + 1 + 0 ≤ 601024; omega, by show 60000 + 100 * q + 6 + 0 ≤ 7293034; omega⟩) hS (fun q _ h => hFc q h) hFc (fun r0 r_407 t H locs ht hvm hw hB hz1 hk1 hS => ?_)
        clear hvm hz1 hk1
        subst hw
        obtain ⟨ym_408, gm_408, hgm_408, hggm_408, hJ, hT⟩ := hB
        rw [ht] at hT
        have hI := hI.ag hgm_408 (by decide)
        have hI := hI.agg hggm_408
        have hW : IW (v 1) (v 2) (v 9) (ym_408 (a 89)) := by rw [hgm_408.at (fx_89 hX) (by decide)]; exact hW
        have hTh : vb 38408 0 4800 (ym_408 (a 99)) := by rw [hgm_408.at (fx_99 hX) (by decide)]; exact hTh
        refine lv_istore (lv' := [(6, .int r_407), (5, .int r_404), (0, .ref b), (1, .ref (a 0)), (2, .ref (a 50)), (3, .ref (a 49)), (4, .int i4)]) hx hb dL_law_1355 hl (by decide) rfl (fun ls hl => ?_)
        refine lv_goto (tgt := 1360) hx hb dL_law_1357 (by decide) ?_
        obtain ⟨x_409, ex_409⟩ : ∃ y : Int32, y = i4 + Int32.ofInt 10 := ⟨_, rfl⟩
        have hx_409 := z_add ex_409 rfl (zk (x := Int32.ofInt 10) 10 rfl) (by omega) (by omega)
        refine lv_iinc (v := x_409) (lv' := [(4, .int x_409), (6, .int r_407), (5, .int r_404), (0, .ref b), (1, .ref (a 0)), (2, .ref (a 50)), (3, .ref (a 49))]) hx hb dL_law_1360 hl (k := 6) rfl ex_409.symm (by decide) rfl (fun ls hl => ?_)
        refine lv_goto (tgt := 23) hx hb dL_law_1363 (by decide) ?_
        refine W.widen (k := 200 + 4 * (q + 1)) (n := 60000 + 100 * (q + 1)) (by omega) (by omega) ?_
        exact ih (q + 1) x_409 tm_405 lm_405 ym_408 gm_408 um_405 v H _ ls (by omega) hF hI hJ hW hTh (by omega) (by omega) (by omega) (by omega) (by omega) hT hS (lv_sub hl [3, 4, 5, 6, 0] rfl)
      · refine lv_tableOut (tgt := 1360) hx hb dL_law_40 t_5 (by decide) ?_
        obtain ⟨x_410, ex_410⟩ : ∃ y : Int32, y = i4 + Int32.ofInt 10 := ⟨_, rfl⟩
        have hx_410 := z_add ex_410 rfl (zk (x := Int32.ofInt 10) 10 rfl) (by omega) (by omega)
        refine lv_iinc (v := x_410) (lv' := [(4, .int x_410), (0, .ref b), (1, .ref (a 0)), (2, .ref (a 50)), (3, .ref (a 49))]) hx hb dL_law_1360 hl (k := 4) rfl ex_410.symm (by decide) rfl (fun ls hl => ?_)
        refine lv_goto (tgt := 23) hx hb dL_law_1363 (by decide) ?_
        refine W.widen (k := 200 + 4 * (q + 1)) (n := 60000 + 100 * (q + 1)) (by omega) (by omega) ?_
        exact ih (q + 1) x_410 τ ln y g u v H _ ls (by omega) hF hI hJ hW hTh (by omega) (by omega) (by omega) (by omega) (by omega) hT hS (lv_sub hl [1, 2, 3, 4, 0] rfl)
