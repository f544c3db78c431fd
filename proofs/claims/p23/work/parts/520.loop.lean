def wo_law : List Cond := [.methodLink RL 35 yX11_post, .instanceMethod yX11_post, .selects RX11 yX11_post yX11_post, .initialized RX11, .methodLink RL 38 yX12_post, .instanceMethod yX12_post, .selects RX12 yX12_post yX12_post, .initialized RX12, .methodLink RL 39 yX11_hand, .instanceMethod yX11_hand, .selects RX11 yX11_hand yX11_hand, .methodLink RL 43 yX12_hand, .instanceMethod yX12_hand, .selects RX12 yX12_hand yX12_hand, .methodLink RL 44 yX11_away, .instanceMethod yX11_away, .selects RX11 yX11_away yX11_away, .methodLink RL 48 yX12_away, .instanceMethod yX12_away, .selects RX12 yX12_away yX12_away, .methodLink RL 49 yX11_piece, .instanceMethod yX11_piece, .selects RX11 yX11_piece yX11_piece, .methodLink RL 53 yX12_piece__, .instanceMethod yX12_piece__, .selects RX12 yX12_piece__ yX12_piece__, .methodLink RL 54 yX11_sign, .instanceMethod yX11_sign, .selects RX11 yX11_sign yX11_sign, .methodLink RL 57 yX12_sign, .instanceMethod yX12_sign, .selects RX12 yX12_sign yX12_sign, .methodLink RL 58 yX11_end, .instanceMethod yX11_end, .selects RX11 yX11_end yX11_end, .methodLink RL 62 yX12_end, .instanceMethod yX12_end, .selects RX12 yX12_end yX12_end, .methodLink RL 63 yX11_rule, .instanceMethod yX11_rule, .selects RX11 yX11_rule yX11_rule, .methodLink RL 66 yX12_rule, .instanceMethod yX12_rule, .selects RX12 yX12_rule yX12_rule, .methodLink RL 67 yX11_step, .instanceMethod yX11_step, .selects RX11 yX11_step yX11_step, .methodLink RL 70 yX12_step, .instanceMethod yX12_step, .selects RX12 yX12_step yX12_step, .methodLink RL 71 yL_of, .static yL_of, .initialized RL, .methodLink RL 76 yX12_of, .instanceMethod yX12_of, .selects RX12 yX12_of yX12_of, .methodLink RL 77 yX11_at, .instanceMethod yX11_at, .selects RX11 yX11_at yX11_at, .methodLink RL 80 yX12_at, .instanceMethod yX12_at, .selects RX12 yX12_at yX12_at, .methodLink RL 81 yX11_may, .instanceMethod yX11_may, .selects RX11 yX11_may yX11_may, .methodLink RL 84 yX12_may, .instanceMethod yX12_may, .selects RX12 yX12_may yX12_may, .methodLink RL 85 yL_order, .static yL_order, .methodLink RL 87 yX12_order, .instanceMethod yX12_order, .selects RX12 yX12_order yX12_order, .methodLink RL 88 yX11_goes, .instanceMethod yX11_goes, .selects RX11 yX11_goes yX11_goes, .methodLink RL 91 yX12_goes, .instanceMethod yX12_goes, .selects RX12 yX12_goes yX12_goes, .methodLink RL 92 yX11_count, .instanceMethod yX11_count, .selects RX11 yX11_count yX11_count, .methodLink RL 95 yX12_count, .instanceMethod yX12_count, .selects RX12 yX12_count yX12_count, .methodLink RL 96 yX11_correct, .instanceMethod yX11_correct, .selects RX11 yX11_correct yX11_correct, .methodLink RL 100 yX12_correct, .instanceMethod yX12_correct, .selects RX12 yX12_correct yX12_correct, .methodLink RL 101 yX11_undo, .instanceMethod yX11_undo, .selects RX11 yX11_undo yX11_undo, .methodLink RL 105 yX12_undo, .instanceMethod yX12_undo, .selects RX12 yX12_undo yX12_undo, .methodLink RL 106 yX11_as, .instanceMethod yX11_as, .selects RX11 yX11_as yX11_as, .methodLink RL 109 yX12_as, .instanceMethod yX12_as, .selects RX12 yX12_as yX12_as, .methodLink RL 110 yX11_fault, .instanceMethod yX11_fault, .selects RX11 yX11_fault yX11_fault, .methodLink RL 113 yX12_fault, .instanceMethod yX12_fault, .selects RX12 yX12_fault yX12_fault, .methodLink RL 114 yX11_faults, .instanceMethod yX11_faults, .selects RX11 yX11_faults yX11_faults, .methodLink RL 117 yX12_faults, .instanceMethod yX12_faults, .selects RX12 yX12_faults yX12_faults, .methodLink RL 118 yL_pay, .static yL_pay, .methodLink RL 121 yX12_pay, .instanceMethod yX12_pay, .selects RX12 yX12_pay yX12_pay, .methodLink RL 122 yL_earns, .static yL_earns, .methodLink RL 124 yX12_earns, .instanceMethod yX12_earns, .selects RX12 yX12_earns yX12_earns, .methodLink RL 125 yX11_slips, .instanceMethod yX11_slips, .selects RX11 yX11_slips yX11_slips, .methodLink RL 129 yX12_slips, .instanceMethod yX12_slips, .selects RX12 yX12_slips yX12_slips, .methodLink RL 130 yX11_left, .instanceMethod yX11_left, .selects RX11 yX11_left yX11_left, .methodLink RL 133 yX12_left, .instanceMethod yX12_left, .selects RX12 yX12_left yX12_left, .methodLink RL 134 yX11_quick, .instanceMethod yX11_quick, .selects RX11 yX11_quick yX11_quick, .methodLink RL 137 yX12_quick, .instanceMethod yX12_quick, .selects RX12 yX12_quick yX12_quick, .methodLink RL 138 yX11_claims, .instanceMethod yX11_claims, .selects RX11 yX11_claims yX11_claims, .methodLink RL 141 yX12_claims, .instanceMethod yX12_claims, .selects RX12 yX12_claims yX12_claims, .methodLink RL 142 yX11_plan, .instanceMethod yX11_plan, .selects RX11 yX11_plan yX11_plan, .methodLink RL 145 yX12_plan, .instanceMethod yX12_plan, .selects RX12 yX12_plan yX12_plan, .methodLink RL 146 yX11_lateness, .instanceMethod yX11_lateness, .selects RX11 yX11_lateness yX11_lateness, .methodLink RL 149 yX12_lateness, .instanceMethod yX12_lateness, .selects RX12 yX12_lateness yX12_lateness, .methodLink RL 150 yX11_tried, .instanceMethod yX11_tried, .selects RX11 yX11_tried yX11_tried, .methodLink RL 153 yX12_tried, .instanceMethod yX12_tried, .selects RX12 yX12_tried yX12_tried, .methodLink RL 154 yL_ill, .static yL_ill, .methodLink RL 156 yX12_ill, .instanceMethod yX12_ill, .selects RX12 yX12_ill yX12_ill, .methodLink RL 157 yL_row, .static yL_row, .methodLink RL 159 yX12_row, .instanceMethod yX12_row, .selects RX12 yX12_row yX12_row]
set_option maxRecDepth 20000 in
theorem im_law : ∀ w ∈ wo_law, w ∈ lw_tbl := in_r _ [590, 591, 592, 70, 1416, 1417, 1418, 86, 597, 598, 599, 1423, 1424, 1425, 625, 626, 627, 1432, 1433, 1434, 656, 657, 658, 1444, 1445, 1446, 727, 728, 729, 1456, 1457, 1458, 731, 732, 733, 1460, 1461, 1462, 735, 736, 737, 1464, 1465, 1466, 743, 744, 745, 1524, 1525, 1526, 1082, 1083, 69, 1584, 1585, 1586, 855, 856, 857, 1592, 1593, 1594, 870, 871, 872, 1604, 1605, 1606, 1161, 1162, 1608, 1609, 1610, 875, 876, 877, 1612, 1613, 1614, 883, 884, 885, 1616, 1617, 1618, 896, 897, 898, 1624, 1625, 1626, 932, 933, 934, 1628, 1629, 1630, 940, 941, 942, 1632, 1633, 1634, 944, 945, 946, 1636, 1637, 1638, 958, 959, 960, 1648, 1649, 1650, 1170, 1171, 1652, 1653, 1654, 1183, 1184, 1660, 1661, 1662, 976, 977, 978, 1664, 1665, 1666, 980, 981, 982, 1668, 1669, 1670, 989, 990, 991, 1672, 1673, 1674, 1003, 1004, 1005, 1676, 1677, 1678, 1015, 1016, 1017, 1684, 1685, 1686, 1065, 1066, 1067, 1711, 1712, 1713, 1069, 1070, 1071, 1715, 1716, 1717, 1196, 1197, 1727, 1728, 1729, 1204, 1205, 1731, 1732, 1733] (by decide +kernel)
set_option maxHeartbeats 40000000 in
set_option maxRecDepth 100000 in
/-- THE LAW'S LOOP -/
theorem law_loop {p : Program} {e : Env} {s : State} {m : MethodId} {below : List Frame} {meth : Method} {c : Code} (l : Launch) (hst : l.stackTraces = false) {b L : Nat} {xs : Nat → Int32} (hL : L ≤ 5120) (C0 : lw_At p s m meth c b L xs) (dC : Nat → ClassId) (dI : Nat → Nat → Nat) (ad av : Nat → Nat) (a : Nat → Nat) (k : Nat → ClassId) (hK : va_K (dC, dI) vwCl (tyl k) s) (hM : am_ok ad av (fun q : Nat => s.heap.size ≤ q) s s.heap) :
    ∀ (n q : Nat) (i4 : Int32) (τ ln : Nat → Nat) (y : Nat → Nat → Int32) (g : Nat → Nat → Option Nat) (u v : Nat → Int) (H : Heap) (locs : List Loc) (ls : Array Slot), 513 - q < n → (∀ q, τ q ≠ 0 → s.heap.size ≤ q) → IC a u τ ln y g → IM a v τ y → IW (v 1) (v 2) (v 9) (y (a 89)) → vb 38408 0 4800 (y (a 99)) → FLo a u g y → v 10 = -1 → v 3 ≤ 30 → (u 2 = v 2 ∧ u 9 = v 9) → i4.toInt = 10 * (q : Int) → q ≤ 512 → tw (dC, dI) a k τ ln y g H → va_S (fun q : Nat => s.heap.size ≤ q) s.heap H locs → lv_has ls 7 [(0, .ref b), (1, .ref (a 0)), (2, .ref (a 50)), (3, .ref (a 49)), (4, .int i4)] →
      W p l e room_1 s m #[Value.ref b] below meth c H locs (200 + 4 * q) (60000 + 100 * q) (lw_Z below #[Value.ref b] s) (F0 m 23 ls []) := by
  obtain ⟨hx, hb, hr, hml, hown, hts, hXs, hbl, hlocks, hgv⟩ := id C0
  have hA : ∀ q : Nat, s.heap.size ≤ q → (fun q : Nat => s.heap.size ≤ q) q := fun _ h => h
  have hbA : ¬ (fun q : Nat => s.heap.size ≤ q) b := Nat.not_le.mpr hbl
  intro n
  induction n with
  | zero => intro q i4 τ ln y g u v H locs ls hlt; exact absurd hlt (Nat.not_lt_zero _)
  | succ n ih =>
    intro q i4 τ ln y g u v H locs ls hlt hF hI hJ hW hTh hFo h10 h3 hrel hq hqL hT hS hl
    have hX := hI.1
    obtain ⟨s1, hs1⟩ : ∃ z, z = xs (10 * q + 1) := ⟨_, rfl⟩
    obtain ⟨s2, hs2⟩ : ∃ z, z = xs (10 * q + 2) := ⟨_, rfl⟩
    obtain ⟨s3, hs3⟩ : ∃ z, z = xs (10 * q + 3) := ⟨_, rfl⟩
    obtain ⟨s4, hs4⟩ : ∃ z, z = xs (10 * q + 4) := ⟨_, rfl⟩
    obtain ⟨s5, hs5⟩ : ∃ z, z = xs (10 * q + 5) := ⟨_, rfl⟩
    obtain ⟨s6, hs6⟩ : ∃ z, z = xs (10 * q + 6) := ⟨_, rfl⟩
    obtain ⟨s7, hs7⟩ : ∃ z, z = xs (10 * q + 7) := ⟨_, rfl⟩
    obtain ⟨s8, hs8⟩ : ∃ z, z = xs (10 * q + 8) := ⟨_, rfl⟩
    obtain ⟨s9, hs9⟩ : ∃ z, z = xs (10 * q + 9) := ⟨_, rfl⟩
    refine lv_iload hx hb dL_law_23 (lv_at hl 4 rfl) ?_
    refine lv_aload_n hx hb dL_law_25 rfl (lv_at hl 0 rfl) ?_
    refine va_slen hx hb hXs hbl hbA hS dL_law_26 ?_
    refine lv_bipush (v := 10) hx hb dL_law_27 (by decide) ?_
    refine lv_isub hx hb dL_law_29 ?_
    refine lv_topi (fun x_1 ex_1 => ?_)
    have hx_1 := z_sub ex_1 (z_of L (by omega)) (zk (x := 10) 10 rfl) (by omega) (by omega)
    refine lv_icmp_gt (tgt := 1366) hx hb dL_law_30 (by decide) (fun c_2 => ?_) (fun c_2 => ?_)
    · have nc_2 := z_lt rfl rfl c_2
      refine lv_iconst (v := 1) hx hb dL_law_1366 (by decide) ?_
      refine va_forget (fun q hq => hS.2.2 q hq) ?_
      refine W.widen (k := 601024) (n := 7293034) (by omega) (by omega) ?_
      exact lw_ret hx hb hr hlocks dL_law_1367
    · have nc_2 := z_nlt rfl rfl c_2
      refine lv_aload_n hx hb dL_law_33 rfl (lv_at hl 0 rfl) ?_
      refine lv_iload hx hb dL_law_34 (lv_at hl 4 rfl) ?_
      refine va_sld hx hb hXs hbl hbA hS (z_in rfl (by omega) (by omega)) dL_law_36 ?_
      refine lv_topi (fun x_3 ex_3 => ?_)
      refine lv_bipush (v := 31) hx hb dL_law_37 (by decide) ?_
      refine lv_iand hx hb dL_law_39 ?_
      refine lv_topi (fun x_4 ex_4 => ?_)
      have hx_4 := z_and (x := x_3) (zk (x := 31) 31 rfl) (by omega)
      rw [← ex_4] at hx_4
      rcases tb_0_29 x_4 with t_5 | t_5 | t_5 | t_5 | t_5 | t_5 | t_5 | t_5 | t_5 | t_5 | t_5 | t_5 | t_5 | t_5 | t_5 | t_5 | t_5 | t_5 | t_5 | t_5 | t_5 | t_5 | t_5 | t_5 | t_5 | t_5 | t_5 | t_5 | t_5 | t_5 | t_5
      · refine lq_top (v := 0) t_5 ?_
        have nt_5 := z_eq rfl (zk (x := 0) 0 rfl) t_5
        refine lv_tableIn (tgt := 176) hx hb dL_law_40 (by decide) (by decide) (off := 136) (by decide) (by decide) ?_
        refine lv_aload_n hx hb dL_law_176 rfl (lv_at hl 1 rfl) ?_
        refine lv_aload_n hx hb dL_law_177 rfl (lv_at hl 0 rfl) ?_
        refine lv_iload hx hb dL_law_178 (lv_at hl 4 rfl) ?_
        refine lv_iconst (v := 1) hx hb dL_law_180 (by decide) ?_
        refine lv_iadd hx hb dL_law_181 ?_
        refine lv_topi (fun x_6 ex_6 => ?_)
        have hx_6 := z_add ex_6 rfl (zk (x := 1) 1 rfl) (by omega) (by omega)
        refine va_sld hx hb hXs hbl hbA hS (z_in rfl (by omega) (by omega)) dL_law_182 ?_
        refine lq_top (v := s1) (by rw [hs1]; exact congrArg xs (by rw [z_nat (x := x_6) rfl]; omega)) ?_
        have hFc := tw_free hF hS hA
        refine va_calli (va_runV (As := [.int s1]) (rest := []) ⟨hx, hb, hml, hown, hts⟩ (c_post l dC dI ad av H.size a k τ ln y g u s1 hI ) (cwV 1 hts (gi_4 (im_law _ (List.mem_of_getElem? (i := 0) rfl)) (im_law _ (List.mem_of_getElem? (i := 1) rfl)) (im_law _ (List.mem_of_getElem? (i := 2) rfl)) (im_law _ (List.mem_of_getElem? (i := 3) rfl)) im_c_post gd_c_post) rfl rfl rfl (by decide +kernel) ⟨Nat.le_of_ble_eq_true rfl, Nat.le_of_ble_eq_true rfl⟩) ⟨pw_blind, tw_recv hK hT (fx_0 hX) (by decide) cl_e10 rfl, pw_use hT hK hFc hS hM⟩ rfl rfl hl.1 rfl (lv_room (Nat.le_of_ble_eq_true rfl)) dL_law_183 ⟨by show 200 + 4 * q + 0 ≤ 601024; omega, by show 60000 + 100 * q + 0 ≤ 7293034; omega⟩) hS (fun q _ h => hFc q h) hFc (fun r0 r_7 t H locs ht hvm hw hB hz1 hk1 hS => ?_)
        clear hvm hz1 hk1
        subst hw
        have hIo := hI
        rcases hB with ⟨um_8, hre, hum_8, hf_9, ⟨tm_8, lm_8, ym_8, gm_8, hMo, hKM, hI, hT⟩⟩ | ⟨um_10, hum_10, hf_11, hf_12, hf_13, ⟨tm_10, lm_10, ym_10, gm_10, hMo, hKM, hI, hT⟩⟩
        · refine lq_top (v := (-1)) hre ?_
          rw [ht] at hT
          have hF : ∀ q, tm_8 q ≠ 0 → s.heap.size ≤ q := fun q h => hFc q (hMo.2 q h)
          have hFo := hFo.kp hIo hKM (hum_8 1 (by decide)) (hum_8 2 (by decide)) (hum_8 9 (by decide))
          have hKM := hKM.to0
          have hJ := hJ.kp hKM hI.1
          have hW : IW (v 1) (v 2) (v 9) (ym_8 (a 89)) := by rw [hKM.fx hX (j := 89) (by decide) (by decide)]; exact hW
          have hTh : vb 38408 0 4800 (ym_8 (a 99)) := by rw [hKM.fx hX (j := 99) (by decide) (by decide)]; exact hTh
          have hX := hI.1
          have : um_8 2 = u 2 := hum_8 2 (by decide)
          have : um_8 9 = u 9 := hum_8 9 (by decide)
          refine lv_pop hx hb dL_law_186 rfl ?_
          refine lv_aload_n hx hb dL_law_187 rfl (lv_at hl 2 rfl) ?_
          refine lv_aload_n hx hb dL_law_188 rfl (lv_at hl 0 rfl) ?_
          refine lv_iload hx hb dL_law_189 (lv_at hl 4 rfl) ?_
          refine lv_iconst (v := 1) hx hb dL_law_191 (by decide) ?_
          refine lv_iadd hx hb dL_law_192 ?_
          refine lv_topi (fun x_14 ex_14 => ?_)
          have hx_14 := z_add ex_14 rfl (zk (x := 1) 1 rfl) (by omega) (by omega)
          refine va_sld hx hb hXs hbl hbA hS (z_in rfl (by omega) (by omega)) dL_law_193 ?_
          refine lq_top (v := s1) (by rw [hs1]; exact congrArg xs (by rw [z_nat (x := x_14) rfl]; omega)) ?_
          have hFc := tw_free hF hS hA
          refine va_calli (va_runV (As := [.int s1]) (rest := []) ⟨hx, hb, hml, hown, hts⟩ (m_post l dC dI ad av H.size a k tm_8 lm_8 ym_8 gm_8 v s1 hJ hW) (cwV 1 hts (gi_4 (im_law _ (List.mem_of_getElem? (i := 4) rfl)) (im_law _ (List.mem_of_getElem? (i := 5) rfl)) (im_law _ (List.mem_of_getElem? (i := 6) rfl)) (im_law _ (List.mem_of_getElem? (i := 7) rfl)) im_m_post gd_m_post) rfl rfl rfl (by decide +kernel) ⟨Nat.le_of_ble_eq_true rfl, Nat.le_of_ble_eq_true rfl⟩) ⟨pw_blind, tw_recv hK hT (fx_50 hX) (by decide) cl_e60 rfl, pw_use hT hK hFc hS hM⟩ rfl rfl hl.1 rfl (lv_room (Nat.le_of_ble_eq_true rfl)) dL_law_194 ⟨by show 200 + 4 * q + 0 + 0 ≤ 601024; omega, by show 60000 + 100 * q + 0 + 0 ≤ 7293034; omega⟩) hS (fun q _ h => hFc q h) hFc (fun r0 r_15 t H locs ht hvm hw hB hz1 hk1 hS => ?_)
          clear hvm hz1 hk1
          subst hw
          have hIo := hI
          rcases hB with ⟨um_16, ym_16, gm_16, hre, hum_16, hgm_16, hggm_16, hJ, hf_17, hf_18, hT⟩ | ⟨um_19, ym_19, gm_19, hum_19, hgm_19, hggm_19, hJ, hf_20, hf_21, hf_22, hT⟩
          · refine lq_top (v := (-1)) hre ?_
            rw [ht] at hT
            have hFo := hFo.m hIo hgm_16 (by decide) (hggm_16 (a 10) (by rw [fx_10 hX]; decide))
            have hI := hI.ag hgm_16 (by decide)
            have hI := hI.agg hggm_16
            have hW : IW (um_16 1) (um_16 2) (um_16 9) (ym_16 (a 89)) := by rw [hgm_16.at (fx_89 hX) (by decide)]; exact iw_u hW (hum_16 1 (by decide)) (hum_16 2 (by decide)) (hum_16 9 (by decide))
            have hTh : vb 38408 0 4800 (ym_16 (a 99)) := by rw [hgm_16.at (fx_99 hX) (by decide)]; exact hTh
            have : um_16 2 = v 2 := hum_16 2 (by decide)
            have : um_16 9 = v 9 := hum_16 9 (by decide)
            have : um_16 3 = v 3 := hum_16 3 (by decide)
            have : um_16 10 = v 10 := hum_16 10 (by decide)
            refine lv_pop hx hb dL_law_197 rfl ?_
            refine lv_goto (tgt := 1360) hx hb dL_law_198 (by decide) ?_
            obtain ⟨x_23, ex_23⟩ : ∃ y : Int32, y = i4 + Int32.ofInt 10 := ⟨_, rfl⟩
            have hx_23 := z_add ex_23 rfl (zk (x := Int32.ofInt 10) 10 rfl) (by omega) (by omega)
            refine lv_iinc (v := x_23) (lv' := [(4, .int x_23), (0, .ref b), (1, .ref (a 0)), (2, .ref (a 50)), (3, .ref (a 49))]) hx hb dL_law_1360 hl (k := 4) rfl ex_23.symm (by decide) rfl (fun ls hl => ?_)
            refine lv_goto (tgt := 23) hx hb dL_law_1363 (by decide) ?_
            refine W.widen (k := 200 + 4 * (q + 1)) (n := 60000 + 100 * (q + 1)) (by omega) (by omega) ?_
            exact ih (q + 1) x_23 tm_8 lm_8 ym_16 gm_16 um_8 um_16 H _ ls (by omega) hF hI hJ hW hTh hFo (by omega) (by omega) (by omega) (by omega) (by omega) hT hS (lv_sub hl [1, 2, 3, 4, 0] rfl)
          · rw [ht] at hT
            have hFo := hFo.m hIo hgm_19 (by decide) (hggm_19 (a 10) (by rw [fx_10 hX]; decide))
            have hI := hI.ag hgm_19 (by decide)
            have hI := hI.agg hggm_19
            have hW : IW (um_19 1) (um_19 2) (um_19 9) (ym_19 (a 89)) := by rw [hgm_19.at (fx_89 hX) (by decide)]; exact iw_u hW (hum_19 1 (by decide)) (hum_19 2 (by decide)) (hum_19 9 (by decide))
            have hTh : vb 38408 0 4800 (ym_19 (a 99)) := by rw [hgm_19.at (fx_99 hX) (by decide)]; exact hTh
            have : um_19 2 = v 2 := hum_19 2 (by decide)
            have : um_19 9 = v 9 := hum_19 9 (by decide)
            have : um_19 3 = v 3 := hum_19 3 (by decide)
            have : um_19 10 = v 10 := hum_19 10 (by decide)
            refine lv_pop hx hb dL_law_197 rfl ?_
            refine lv_goto (tgt := 1360) hx hb dL_law_198 (by decide) ?_
            obtain ⟨x_24, ex_24⟩ : ∃ y : Int32, y = i4 + Int32.ofInt 10 := ⟨_, rfl⟩
            have hx_24 := z_add ex_24 rfl (zk (x := Int32.ofInt 10) 10 rfl) (by omega) (by omega)
            refine lv_iinc (v := x_24) (lv' := [(4, .int x_24), (0, .ref b), (1, .ref (a 0)), (2, .ref (a 50)), (3, .ref (a 49))]) hx hb dL_law_1360 hl (k := 4) rfl ex_24.symm (by decide) rfl (fun ls hl => ?_)
            refine lv_goto (tgt := 23) hx hb dL_law_1363 (by decide) ?_
            refine W.widen (k := 200 + 4 * (q + 1)) (n := 60000 + 100 * (q + 1)) (by omega) (by omega) ?_
            exact ih (q + 1) x_24 tm_8 lm_8 ym_19 gm_19 um_8 um_19 H _ ls (by omega) hF hI hJ hW hTh hFo (by omega) (by omega) (by omega) (by omega) (by omega) hT hS (lv_sub hl [1, 2, 3, 4, 0] rfl)
        · rw [ht] at hT
          have hF : ∀ q, tm_10 q ≠ 0 → s.heap.size ≤ q := fun q h => hFc q (hMo.2 q h)
          have hFo := hFo.kp hIo hKM (hum_10 1 (by decide)) (hum_10 2 (by decide)) (hum_10 9 (by decide))
          have hKM := hKM.to0
          have hJ := hJ.kp hKM hI.1
          have hW : IW (v 1) (v 2) (v 9) (ym_10 (a 89)) := by rw [hKM.fx hX (j := 89) (by decide) (by decide)]; exact hW
          have hTh : vb 38408 0 4800 (ym_10 (a 99)) := by rw [hKM.fx hX (j := 99) (by decide) (by decide)]; exact hTh
          have hX := hI.1
          have : um_10 2 = u 2 := hum_10 2 (by decide)
          have : um_10 9 = u 9 := hum_10 9 (by decide)
          refine lv_pop hx hb dL_law_186 rfl ?_
          refine lv_aload_n hx hb dL_law_187 rfl (lv_at hl 2 rfl) ?_
          refine lv_aload_n hx hb dL_law_188 rfl (lv_at hl 0 rfl) ?_
          refine lv_iload hx hb dL_law_189 (lv_at hl 4 rfl) ?_
          refine lv_iconst (v := 1) hx hb dL_law_191 (by decide) ?_
          refine lv_iadd hx hb dL_law_192 ?_
          refine lv_topi (fun x_25 ex_25 => ?_)
          have hx_25 := z_add ex_25 rfl (zk (x := 1) 1 rfl) (by omega) (by omega)
          refine va_sld hx hb hXs hbl hbA hS (z_in rfl (by omega) (by omega)) dL_law_193 ?_
          refine lq_top (v := s1) (by rw [hs1]; exact congrArg xs (by rw [z_nat (x := x_25) rfl]; omega)) ?_
          have hFc := tw_free hF hS hA
          refine va_calli (va_runV (As := [.int s1]) (rest := []) ⟨hx, hb, hml, hown, hts⟩ (m_post l dC dI ad av H.size a k tm_10 lm_10 ym_10 gm_10 v s1 hJ hW) (cwV 1 hts (gi_4 (im_law _ (List.mem_of_getElem? (i := 4) rfl)) (im_law _ (List.mem_of_getElem? (i := 5) rfl)) (im_law _ (List.mem_of_getElem? (i := 6) rfl)) (im_law _ (List.mem_of_getElem? (i := 7) rfl)) im_m_post gd_m_post) rfl rfl rfl (by decide +kernel) ⟨Nat.le_of_ble_eq_true rfl, Nat.le_of_ble_eq_true rfl⟩) ⟨pw_blind, tw_recv hK hT (fx_50 hX) (by decide) cl_e60 rfl, pw_use hT hK hFc hS hM⟩ rfl rfl hl.1 rfl (lv_room (Nat.le_of_ble_eq_true rfl)) dL_law_194 ⟨by show 200 + 4 * q + 0 + 0 ≤ 601024; omega, by show 60000 + 100 * q + 0 + 0 ≤ 7293034; omega⟩) hS (fun q _ h => hFc q h) hFc (fun r0 r_26 t H locs ht hvm hw hB hz1 hk1 hS => ?_)
          clear hvm hz1 hk1
          subst hw
          have hIo := hI
          rcases hB with ⟨um_27, ym_27, gm_27, hre, hum_27, hgm_27, hggm_27, hJ, hf_28, hf_29, hT⟩ | ⟨um_30, ym_30, gm_30, hum_30, hgm_30, hggm_30, hJ, hf_31, hf_32, hf_33, hT⟩
          · refine lq_top (v := (-1)) hre ?_
            rw [ht] at hT
            have hFo := hFo.m hIo hgm_27 (by decide) (hggm_27 (a 10) (by rw [fx_10 hX]; decide))
            have hI := hI.ag hgm_27 (by decide)
            have hI := hI.agg hggm_27
            have hW : IW (um_27 1) (um_27 2) (um_27 9) (ym_27 (a 89)) := by rw [hgm_27.at (fx_89 hX) (by decide)]; exact iw_u hW (hum_27 1 (by decide)) (hum_27 2 (by decide)) (hum_27 9 (by decide))
            have hTh : vb 38408 0 4800 (ym_27 (a 99)) := by rw [hgm_27.at (fx_99 hX) (by decide)]; exact hTh
            have : um_27 2 = v 2 := hum_27 2 (by decide)
            have : um_27 9 = v 9 := hum_27 9 (by decide)
            have : um_27 3 = v 3 := hum_27 3 (by decide)
            have : um_27 10 = v 10 := hum_27 10 (by decide)
            refine lv_pop hx hb dL_law_197 rfl ?_
            refine lv_goto (tgt := 1360) hx hb dL_law_198 (by decide) ?_
            obtain ⟨x_34, ex_34⟩ : ∃ y : Int32, y = i4 + Int32.ofInt 10 := ⟨_, rfl⟩
            have hx_34 := z_add ex_34 rfl (zk (x := Int32.ofInt 10) 10 rfl) (by omega) (by omega)
            refine lv_iinc (v := x_34) (lv' := [(4, .int x_34), (0, .ref b), (1, .ref (a 0)), (2, .ref (a 50)), (3, .ref (a 49))]) hx hb dL_law_1360 hl (k := 4) rfl ex_34.symm (by decide) rfl (fun ls hl => ?_)
            refine lv_goto (tgt := 23) hx hb dL_law_1363 (by decide) ?_
            refine W.widen (k := 200 + 4 * (q + 1)) (n := 60000 + 100 * (q + 1)) (by omega) (by omega) ?_
            exact ih (q + 1) x_34 tm_10 lm_10 ym_27 gm_27 um_10 um_27 H _ ls (by omega) hF hI hJ hW hTh hFo (by omega) (by omega) (by omega) (by omega) (by omega) hT hS (lv_sub hl [1, 2, 3, 4, 0] rfl)
          · rw [ht] at hT
            have hFo := hFo.m hIo hgm_30 (by decide) (hggm_30 (a 10) (by rw [fx_10 hX]; decide))
            have hI := hI.ag hgm_30 (by decide)
            have hI := hI.agg hggm_30
            have hW : IW (um_30 1) (um_30 2) (um_30 9) (ym_30 (a 89)) := by rw [hgm_30.at (fx_89 hX) (by decide)]; exact iw_u hW (hum_30 1 (by decide)) (hum_30 2 (by decide)) (hum_30 9 (by decide))
            have hTh : vb 38408 0 4800 (ym_30 (a 99)) := by rw [hgm_30.at (fx_99 hX) (by decide)]; exact hTh
            have : um_30 2 = v 2 := hum_30 2 (by decide)
            have : um_30 9 = v 9 := hum_30 9 (by decide)
            have : um_30 3 = v 3 := hum_30 3 (by decide)
            have : um_30 10 = v 10 := hum_30 10 (by decide)
            refine lv_pop hx hb dL_law_197 rfl ?_
            refine lv_goto (tgt := 1360) hx hb dL_law_198 (by decide) ?_
            obtain ⟨x_35, ex_35⟩ : ∃ y : Int32, y = i4 + Int32.ofInt 10 := ⟨_, rfl⟩
            have hx_35 := z_add ex_35 rfl (zk (x := Int32.ofInt 10) 10 rfl) (by omega) (by omega)
            refine lv_iinc (v := x_35) (lv' := [(4, .int x_35), (0, .ref b), (1, .ref (a 0)), (2, .ref (a 50)), (3, .ref (a 49))]) hx hb dL_law_1360 hl (k := 4) rfl ex_35.symm (by decide) rfl (fun ls hl => ?_)
            refine lv_goto (tgt := 23) hx hb dL_law_1363 (by decide) ?_
            refine W.widen (k := 200 + 4 * (q + 1)) (n := 60000 + 100 * (q + 1)) (by omega) (by omega) ?_
            exact ih (q + 1) x_35 tm_10 lm_10 ym_30 gm_30 um_10 um_30 H _ ls (by omega) hF hI hJ hW hTh hFo (by omega) (by omega) (by omega) (by omega) (by omega) hT hS (lv_sub hl [1, 2, 3, 4, 0] rfl)
      · refine lq_top (v := 1) t_5 ?_
        have nt_5 := z_eq rfl (zk (x := 1) 1 rfl) t_5
        refine lv_tableIn (tgt := 201) hx hb dL_law_40 (by decide) (by decide) (off := 161) (by decide) (by decide) ?_
        refine lv_aload_n hx hb dL_law_201 rfl (lv_at hl 1 rfl) ?_
        refine lv_aload_n hx hb dL_law_202 rfl (lv_at hl 0 rfl) ?_
        refine lv_iload hx hb dL_law_203 (lv_at hl 4 rfl) ?_
        refine lv_iconst (v := 1) hx hb dL_law_205 (by decide) ?_
        refine lv_iadd hx hb dL_law_206 ?_
        refine lv_topi (fun x_36 ex_36 => ?_)
        have hx_36 := z_add ex_36 rfl (zk (x := 1) 1 rfl) (by omega) (by omega)
        refine va_sld hx hb hXs hbl hbA hS (z_in rfl (by omega) (by omega)) dL_law_207 ?_
        refine lq_top (v := s1) (by rw [hs1]; exact congrArg xs (by rw [z_nat (x := x_36) rfl]; omega)) ?_
        refine lv_aload_n hx hb dL_law_208 rfl (lv_at hl 0 rfl) ?_
        refine lv_iload hx hb dL_law_209 (lv_at hl 4 rfl) ?_
        refine lv_iconst (v := 2) hx hb dL_law_211 (by decide) ?_
        refine lv_iadd hx hb dL_law_212 ?_
        refine lv_topi (fun x_37 ex_37 => ?_)
        have hx_37 := z_add ex_37 rfl (zk (x := 2) 2 rfl) (by omega) (by omega)
        refine va_sld hx hb hXs hbl hbA hS (z_in rfl (by omega) (by omega)) dL_law_213 ?_
        refine lq_top (v := s2) (by rw [hs2]; exact congrArg xs (by rw [z_nat (x := x_37) rfl]; omega)) ?_
        refine lv_aload_n hx hb dL_law_214 rfl (lv_at hl 0 rfl) ?_
        refine lv_iload hx hb dL_law_215 (lv_at hl 4 rfl) ?_
        refine lv_iconst (v := 3) hx hb dL_law_217 (by decide) ?_
        refine lv_iadd hx hb dL_law_218 ?_
        refine lv_topi (fun x_38 ex_38 => ?_)
        have hx_38 := z_add ex_38 rfl (zk (x := 3) 3 rfl) (by omega) (by omega)
        refine va_sld hx hb hXs hbl hbA hS (z_in rfl (by omega) (by omega)) dL_law_219 ?_
        refine lq_top (v := s3) (by rw [hs3]; exact congrArg xs (by rw [z_nat (x := x_38) rfl]; omega)) ?_
        refine lv_aload_n hx hb dL_law_220 rfl (lv_at hl 0 rfl) ?_
        refine lv_iload hx hb dL_law_221 (lv_at hl 4 rfl) ?_
        refine lv_iconst (v := 4) hx hb dL_law_223 (by decide) ?_
        refine lv_iadd hx hb dL_law_224 ?_
        refine lv_topi (fun x_39 ex_39 => ?_)
        have hx_39 := z_add ex_39 rfl (zk (x := 4) 4 rfl) (by omega) (by omega)
        refine va_sld hx hb hXs hbl hbA hS (z_in rfl (by omega) (by omega)) dL_law_225 ?_
        refine lq_top (v := s4) (by rw [hs4]; exact congrArg xs (by rw [z_nat (x := x_39) rfl]; omega)) ?_
        have hFc := tw_free hF hS hA
        refine va_calli (va_runV (As := [.int s1, .int s2, .int s3, .int s4]) (rest := []) ⟨hx, hb, hml, hown, hts⟩ (c_handF l dC dI ad av H.size a k τ ln y g u s1 s2 s3 s4 hI hFo) (cwV 4 hts (gi_4 (im_law _ (List.mem_of_getElem? (i := 8) rfl)) (im_law _ (List.mem_of_getElem? (i := 9) rfl)) (im_law _ (List.mem_of_getElem? (i := 10) rfl)) (im_law _ (List.mem_of_getElem? (i := 3) rfl)) im_c_handF gd_c_handF) rfl rfl rfl (by decide +kernel) ⟨Nat.le_of_ble_eq_true rfl, Nat.le_of_ble_eq_true rfl⟩) ⟨pw_blind, tw_recv hK hT (fx_0 hX) (by decide) cl_e10 rfl, pw_use hT hK hFc hS hM⟩ rfl rfl hl.1 rfl (lv_room (Nat.le_of_ble_eq_true rfl)) dL_law_226 ⟨by show 200 + 4 * q + 1 ≤ 601024; omega, by show 60000 + 100 * q + 3 ≤ 7293034; omega⟩) hS (fun q _ h => hFc q h) hFc (fun r0 r_40 t H locs ht hvm hw hB hz1 hk1 hS => ?_)
        clear hvm hz1 hk1
        subst hw
        have hIo := hI
        rcases hB with ⟨um_41, hre, hum_41, hf_42, ⟨tm_41, lm_41, ym_41, gm_41, hMo, hKM, hI, hFo, hT⟩⟩ | ⟨um_43, hum_43, hf_44, hf_45, hf_46, ⟨tm_43, lm_43, ym_43, gm_43, hMo, hKM, hI, hFo, hT⟩⟩
        · refine lq_top (v := (-1)) hre ?_
          rw [ht] at hT
          have hF : ∀ q, tm_41 q ≠ 0 → s.heap.size ≤ q := fun q h => hFc q (hMo.2 q h)
          have hJ := hJ.kp hKM hI.1
          have hW : IW (v 1) (v 2) (v 9) (ym_41 (a 89)) := by rw [hKM.fx hX (j := 89) (by decide) (by decide)]; exact hW
          have hTh : vb 38408 0 4800 (ym_41 (a 99)) := by rw [hKM.fx hX (j := 99) (by decide) (by decide)]; exact hTh
          have hX := hI.1
          have : um_41 2 = u 2 := hum_41 2 (by decide)
          have : um_41 9 = u 9 := hum_41 9 (by decide)
          refine lv_pop hx hb dL_law_229 rfl ?_
          refine lv_aload_n hx hb dL_law_230 rfl (lv_at hl 2 rfl) ?_
          refine lv_aload_n hx hb dL_law_231 rfl (lv_at hl 0 rfl) ?_
          refine lv_iload hx hb dL_law_232 (lv_at hl 4 rfl) ?_
          refine lv_iconst (v := 1) hx hb dL_law_234 (by decide) ?_
          refine lv_iadd hx hb dL_law_235 ?_
          refine lv_topi (fun x_47 ex_47 => ?_)
          have hx_47 := z_add ex_47 rfl (zk (x := 1) 1 rfl) (by omega) (by omega)
          refine va_sld hx hb hXs hbl hbA hS (z_in rfl (by omega) (by omega)) dL_law_236 ?_
          refine lq_top (v := s1) (by rw [hs1]; exact congrArg xs (by rw [z_nat (x := x_47) rfl]; omega)) ?_
          refine lv_aload_n hx hb dL_law_237 rfl (lv_at hl 0 rfl) ?_
          refine lv_iload hx hb dL_law_238 (lv_at hl 4 rfl) ?_
          refine lv_iconst (v := 2) hx hb dL_law_240 (by decide) ?_
          refine lv_iadd hx hb dL_law_241 ?_
          refine lv_topi (fun x_48 ex_48 => ?_)
          have hx_48 := z_add ex_48 rfl (zk (x := 2) 2 rfl) (by omega) (by omega)
          refine va_sld hx hb hXs hbl hbA hS (z_in rfl (by omega) (by omega)) dL_law_242 ?_
          refine lq_top (v := s2) (by rw [hs2]; exact congrArg xs (by rw [z_nat (x := x_48) rfl]; omega)) ?_
          refine lv_aload_n hx hb dL_law_243 rfl (lv_at hl 0 rfl) ?_
          refine lv_iload hx hb dL_law_244 (lv_at hl 4 rfl) ?_
          refine lv_iconst (v := 3) hx hb dL_law_246 (by decide) ?_
          refine lv_iadd hx hb dL_law_247 ?_
          refine lv_topi (fun x_49 ex_49 => ?_)
          have hx_49 := z_add ex_49 rfl (zk (x := 3) 3 rfl) (by omega) (by omega)
          refine va_sld hx hb hXs hbl hbA hS (z_in rfl (by omega) (by omega)) dL_law_248 ?_
          refine lq_top (v := s3) (by rw [hs3]; exact congrArg xs (by rw [z_nat (x := x_49) rfl]; omega)) ?_
          refine lv_aload_n hx hb dL_law_249 rfl (lv_at hl 0 rfl) ?_
          refine lv_iload hx hb dL_law_250 (lv_at hl 4 rfl) ?_
          refine lv_iconst (v := 4) hx hb dL_law_252 (by decide) ?_
          refine lv_iadd hx hb dL_law_253 ?_
          refine lv_topi (fun x_50 ex_50 => ?_)
          have hx_50 := z_add ex_50 rfl (zk (x := 4) 4 rfl) (by omega) (by omega)
          refine va_sld hx hb hXs hbl hbA hS (z_in rfl (by omega) (by omega)) dL_law_254 ?_
          refine lq_top (v := s4) (by rw [hs4]; exact congrArg xs (by rw [z_nat (x := x_50) rfl]; omega)) ?_
          have hFc := tw_free hF hS hA
          refine va_calli (va_runV (As := [.int s1, .int s2, .int s3, .int s4]) (rest := []) ⟨hx, hb, hml, hown, hts⟩ (m_hand l dC dI ad av H.size a k tm_41 lm_41 ym_41 gm_41 v s1 s2 s3 s4 hJ hW) (cwV 4 hts (gi_4 (im_law _ (List.mem_of_getElem? (i := 11) rfl)) (im_law _ (List.mem_of_getElem? (i := 12) rfl)) (im_law _ (List.mem_of_getElem? (i := 13) rfl)) (im_law _ (List.mem_of_getElem? (i := 7) rfl)) im_m_hand gd_m_hand) rfl rfl rfl (by decide +kernel) ⟨Nat.le_of_ble_eq_true rfl, Nat.le_of_ble_eq_true rfl⟩) ⟨pw_blind, tw_recv hK hT (fx_50 hX) (by decide) cl_e60 rfl, pw_use hT hK hFc hS hM⟩ rfl rfl hl.1 rfl (lv_room (Nat.le_of_ble_eq_true rfl)) dL_law_255 ⟨by show 200 + 4 * q + 1 + 0 ≤ 601024; omega, by show 60000 + 100 * q + 3 + 0 ≤ 7293034; omega⟩) hS (fun q _ h => hFc q h) hFc (fun r0 r_51 t H locs ht hvm hw hB hz1 hk1 hS => ?_)
          clear hvm hz1 hk1
          subst hw
          have hIo := hI
          rcases hB with ⟨um_52, ym_52, gm_52, hre, hum_52, hgm_52, hggm_52, hJ, hW, hf_53, hf_54, hT⟩ | ⟨um_55, ym_55, gm_55, hum_55, hgm_55, hggm_55, hJ, hW, hf_56, hf_57, hf_58, hT⟩
          · refine lq_top (v := (-1)) hre ?_
            rw [ht] at hT
            have hFo := hFo.m hIo hgm_52 (by decide) (hggm_52 (a 10) (by rw [fx_10 hX]; decide))
            have hI := hI.ag hgm_52 (by decide)
            have hI := hI.agg hggm_52
            have hTh : vb 38408 0 4800 (ym_52 (a 99)) := by rw [hgm_52.at (fx_99 hX) (by decide)]; exact hTh
            have : um_52 2 = v 2 := hum_52 2 (by decide)
            have : um_52 9 = v 9 := hum_52 9 (by decide)
            have : um_52 3 = v 3 := hum_52 3 (by decide)
            have : um_52 10 = v 10 := hum_52 10 (by decide)
            refine lv_pop hx hb dL_law_258 rfl ?_
            refine lv_goto (tgt := 1360) hx hb dL_law_259 (by decide) ?_
            obtain ⟨x_59, ex_59⟩ : ∃ y : Int32, y = i4 + Int32.ofInt 10 := ⟨_, rfl⟩
            have hx_59 := z_add ex_59 rfl (zk (x := Int32.ofInt 10) 10 rfl) (by omega) (by omega)
            refine lv_iinc (v := x_59) (lv' := [(4, .int x_59), (0, .ref b), (1, .ref (a 0)), (2, .ref (a 50)), (3, .ref (a 49))]) hx hb dL_law_1360 hl (k := 4) rfl ex_59.symm (by decide) rfl (fun ls hl => ?_)
            refine lv_goto (tgt := 23) hx hb dL_law_1363 (by decide) ?_
            refine W.widen (k := 200 + 4 * (q + 1)) (n := 60000 + 100 * (q + 1)) (by omega) (by omega) ?_
            exact ih (q + 1) x_59 tm_41 lm_41 ym_52 gm_52 um_41 um_52 H _ ls (by omega) hF hI hJ hW hTh hFo (by omega) (by omega) (by omega) (by omega) (by omega) hT hS (lv_sub hl [1, 2, 3, 4, 0] rfl)
          · rw [ht] at hT
            have hFo := hFo.m hIo hgm_55 (by decide) (hggm_55 (a 10) (by rw [fx_10 hX]; decide))
            have hI := hI.ag hgm_55 (by decide)
            have hI := hI.agg hggm_55
            have hTh : vb 38408 0 4800 (ym_55 (a 99)) := by rw [hgm_55.at (fx_99 hX) (by decide)]; exact hTh
            have : um_55 2 = v 2 := hum_55 2 (by decide)
            have : um_55 9 = v 9 := hum_55 9 (by decide)
            have : um_55 3 = v 3 := hum_55 3 (by decide)
            have : um_55 10 = v 10 := hum_55 10 (by decide)
            refine lv_pop hx hb dL_law_258 rfl ?_
            refine lv_goto (tgt := 1360) hx hb dL_law_259 (by decide) ?_
            obtain ⟨x_60, ex_60⟩ : ∃ y : Int32, y = i4 + Int32.ofInt 10 := ⟨_, rfl⟩
            have hx_60 := z_add ex_60 rfl (zk (x := Int32.ofInt 10) 10 rfl) (by omega) (by omega)
            refine lv_iinc (v := x_60) (lv' := [(4, .int x_60), (0, .ref b), (1, .ref (a 0)), (2, .ref (a 50)), (3, .ref (a 49))]) hx hb dL_law_1360 hl (k := 4) rfl ex_60.symm (by decide) rfl (fun ls hl => ?_)
            refine lv_goto (tgt := 23) hx hb dL_law_1363 (by decide) ?_
            refine W.widen (k := 200 + 4 * (q + 1)) (n := 60000 + 100 * (q + 1)) (by omega) (by omega) ?_
            exact ih (q + 1) x_60 tm_41 lm_41 ym_55 gm_55 um_41 um_55 H _ ls (by omega) hF hI hJ hW hTh hFo (by omega) (by omega) (by omega) (by omega) (by omega) hT hS (lv_sub hl [1, 2, 3, 4, 0] rfl)
        · rw [ht] at hT
          have hF : ∀ q, tm_43 q ≠ 0 → s.heap.size ≤ q := fun q h => hFc q (hMo.2 q h)
          have hJ := hJ.kp hKM hI.1
          have hW : IW (v 1) (v 2) (v 9) (ym_43 (a 89)) := by rw [hKM.fx hX (j := 89) (by decide) (by decide)]; exact hW
          have hTh : vb 38408 0 4800 (ym_43 (a 99)) := by rw [hKM.fx hX (j := 99) (by decide) (by decide)]; exact hTh
          have hX := hI.1
          have : um_43 2 = u 2 := hum_43 2 (by decide)
          have : um_43 9 = u 9 := hum_43 9 (by decide)
          refine lv_pop hx hb dL_law_229 rfl ?_
          refine lv_aload_n hx hb dL_law_230 rfl (lv_at hl 2 rfl) ?_
          refine lv_aload_n hx hb dL_law_231 rfl (lv_at hl 0 rfl) ?_
          refine lv_iload hx hb dL_law_232 (lv_at hl 4 rfl) ?_
          refine lv_iconst (v := 1) hx hb dL_law_234 (by decide) ?_
          refine lv_iadd hx hb dL_law_235 ?_
          refine lv_topi (fun x_61 ex_61 => ?_)
          have hx_61 := z_add ex_61 rfl (zk (x := 1) 1 rfl) (by omega) (by omega)
          refine va_sld hx hb hXs hbl hbA hS (z_in rfl (by omega) (by omega)) dL_law_236 ?_
          refine lq_top (v := s1) (by rw [hs1]; exact congrArg xs (by rw [z_nat (x := x_61) rfl]; omega)) ?_
          refine lv_aload_n hx hb dL_law_237 rfl (lv_at hl 0 rfl) ?_
          refine lv_iload hx hb dL_law_238 (lv_at hl 4 rfl) ?_
          refine lv_iconst (v := 2) hx hb dL_law_240 (by decide) ?_
          refine lv_iadd hx hb dL_law_241 ?_
          refine lv_topi (fun x_62 ex_62 => ?_)
          have hx_62 := z_add ex_62 rfl (zk (x := 2) 2 rfl) (by omega) (by omega)
          refine va_sld hx hb hXs hbl hbA hS (z_in rfl (by omega) (by omega)) dL_law_242 ?_
          refine lq_top (v := s2) (by rw [hs2]; exact congrArg xs (by rw [z_nat (x := x_62) rfl]; omega)) ?_
          refine lv_aload_n hx hb dL_law_243 rfl (lv_at hl 0 rfl) ?_
          refine lv_iload hx hb dL_law_244 (lv_at hl 4 rfl) ?_
          refine lv_iconst (v := 3) hx hb dL_law_246 (by decide) ?_
          refine lv_iadd hx hb dL_law_247 ?_
          refine lv_topi (fun x_63 ex_63 => ?_)
          have hx_63 := z_add ex_63 rfl (zk (x := 3) 3 rfl) (by omega) (by omega)
          refine va_sld hx hb hXs hbl hbA hS (z_in rfl (by omega) (by omega)) dL_law_248 ?_
          refine lq_top (v := s3) (by rw [hs3]; exact congrArg xs (by rw [z_nat (x := x_63) rfl]; omega)) ?_
          refine lv_aload_n hx hb dL_law_249 rfl (lv_at hl 0 rfl) ?_
          refine lv_iload hx hb dL_law_250 (lv_at hl 4 rfl) ?_
          refine lv_iconst (v := 4) hx hb dL_law_252 (by decide) ?_
          refine lv_iadd hx hb dL_law_253 ?_
          refine lv_topi (fun x_64 ex_64 => ?_)
          have hx_64 := z_add ex_64 rfl (zk (x := 4) 4 rfl) (by omega) (by omega)
          refine va_sld hx hb hXs hbl hbA hS (z_in rfl (by omega) (by omega)) dL_law_254 ?_
          refine lq_top (v := s4) (by rw [hs4]; exact congrArg xs (by rw [z_nat (x := x_64) rfl]; omega)) ?_
          have hFc := tw_free hF hS hA
          refine va_calli (va_runV (As := [.int s1, .int s2, .int s3, .int s4]) (rest := []) ⟨hx, hb, hml, hown, hts⟩ (m_hand l dC dI ad av H.size a k tm_43 lm_43 ym_43 gm_43 v s1 s2 s3 s4 hJ hW) (cwV 4 hts (gi_4 (im_law _ (List.mem_of_getElem? (i := 11) rfl)) (im_law _ (List.mem_of_getElem? (i := 12) rfl)) (im_law _ (List.mem_of_getElem? (i := 13) rfl)) (im_law _ (List.mem_of_getElem? (i := 7) rfl)) im_m_hand gd_m_hand) rfl rfl rfl (by decide +kernel) ⟨Nat.le_of_ble_eq_true rfl, Nat.le_of_ble_eq_true rfl⟩) ⟨pw_blind, tw_recv hK hT (fx_50 hX) (by decide) cl_e60 rfl, pw_use hT hK hFc hS hM⟩ rfl rfl hl.1 rfl (lv_room (Nat.le_of_ble_eq_true rfl)) dL_law_255 ⟨by show 200 + 4 * q + 1 + 0 ≤ 601024; omega, by show 60000 + 100 * q + 3 + 0 ≤ 7293034; omega⟩) hS (fun q _ h => hFc q h) hFc (fun r0 r_65 t H locs ht hvm hw hB hz1 hk1 hS => ?_)
          clear hvm hz1 hk1
          subst hw
          have hIo := hI
          rcases hB with ⟨um_66, ym_66, gm_66, hre, hum_66, hgm_66, hggm_66, hJ, hW, hf_67, hf_68, hT⟩ | ⟨um_69, ym_69, gm_69, hum_69, hgm_69, hggm_69, hJ, hW, hf_70, hf_71, hf_72, hT⟩
          · refine lq_top (v := (-1)) hre ?_
            rw [ht] at hT
            have hFo := hFo.m hIo hgm_66 (by decide) (hggm_66 (a 10) (by rw [fx_10 hX]; decide))
            have hI := hI.ag hgm_66 (by decide)
            have hI := hI.agg hggm_66
            have hTh : vb 38408 0 4800 (ym_66 (a 99)) := by rw [hgm_66.at (fx_99 hX) (by decide)]; exact hTh
            have : um_66 2 = v 2 := hum_66 2 (by decide)
            have : um_66 9 = v 9 := hum_66 9 (by decide)
            have : um_66 3 = v 3 := hum_66 3 (by decide)
            have : um_66 10 = v 10 := hum_66 10 (by decide)
            refine lv_pop hx hb dL_law_258 rfl ?_
            refine lv_goto (tgt := 1360) hx hb dL_law_259 (by decide) ?_
            obtain ⟨x_73, ex_73⟩ : ∃ y : Int32, y = i4 + Int32.ofInt 10 := ⟨_, rfl⟩
            have hx_73 := z_add ex_73 rfl (zk (x := Int32.ofInt 10) 10 rfl) (by omega) (by omega)
            refine lv_iinc (v := x_73) (lv' := [(4, .int x_73), (0, .ref b), (1, .ref (a 0)), (2, .ref (a 50)), (3, .ref (a 49))]) hx hb dL_law_1360 hl (k := 4) rfl ex_73.symm (by decide) rfl (fun ls hl => ?_)
            refine lv_goto (tgt := 23) hx hb dL_law_1363 (by decide) ?_
            refine W.widen (k := 200 + 4 * (q + 1)) (n := 60000 + 100 * (q + 1)) (by omega) (by omega) ?_
            exact ih (q + 1) x_73 tm_43 lm_43 ym_66 gm_66 um_43 um_66 H _ ls (by omega) hF hI hJ hW hTh hFo (by omega) (by omega) (by omega) (by omega) (by omega) hT hS (lv_sub hl [1, 2, 3, 4, 0] rfl)
          · rw [ht] at hT
            have hFo := hFo.m hIo hgm_69 (by decide) (hggm_69 (a 10) (by rw [fx_10 hX]; decide))
            have hI := hI.ag hgm_69 (by decide)
            have hI := hI.agg hggm_69
            have hTh : vb 38408 0 4800 (ym_69 (a 99)) := by rw [hgm_69.at (fx_99 hX) (by decide)]; exact hTh
            have : um_69 2 = v 2 := hum_69 2 (by decide)
            have : um_69 9 = v 9 := hum_69 9 (by decide)
            have : um_69 3 = v 3 := hum_69 3 (by decide)
            have : um_69 10 = v 10 := hum_69 10 (by decide)
            refine lv_pop hx hb dL_law_258 rfl ?_
            refine lv_goto (tgt := 1360) hx hb dL_law_259 (by decide) ?_
            obtain ⟨x_74, ex_74⟩ : ∃ y : Int32, y = i4 + Int32.ofInt 10 := ⟨_, rfl⟩
            have hx_74 := z_add ex_74 rfl (zk (x := Int32.ofInt 10) 10 rfl) (by omega) (by omega)
            refine lv_iinc (v := x_74) (lv' := [(4, .int x_74), (0, .ref b), (1, .ref (a 0)), (2, .ref (a 50)), (3, .ref (a 49))]) hx hb dL_law_1360 hl (k := 4) rfl ex_74.symm (by decide) rfl (fun ls hl => ?_)
            refine lv_goto (tgt := 23) hx hb dL_law_1363 (by decide) ?_
            refine W.widen (k := 200 + 4 * (q + 1)) (n := 60000 + 100 * (q + 1)) (by omega) (by omega) ?_
            exact ih (q + 1) x_74 tm_43 lm_43 ym_69 gm_69 um_43 um_69 H _ ls (by omega) hF hI hJ hW hTh hFo (by omega) (by omega) (by omega) (by omega) (by omega) hT hS (lv_sub hl [1, 2, 3, 4, 0] rfl)
      · refine lq_top (v := 2) t_5 ?_
        have nt_5 := z_eq rfl (zk (x := 2) 2 rfl) t_5
        refine lv_tableIn (tgt := 262) hx hb dL_law_40 (by decide) (by decide) (off := 222) (by decide) (by decide) ?_
        refine lv_aload_n hx hb dL_law_262 rfl (lv_at hl 1 rfl) ?_
        refine lv_aload_n hx hb dL_law_263 rfl (lv_at hl 0 rfl) ?_
        refine lv_iload hx hb dL_law_264 (lv_at hl 4 rfl) ?_
        refine lv_iconst (v := 1) hx hb dL_law_266 (by decide) ?_
        refine lv_iadd hx hb dL_law_267 ?_
        refine lv_topi (fun x_75 ex_75 => ?_)
        have hx_75 := z_add ex_75 rfl (zk (x := 1) 1 rfl) (by omega) (by omega)
        refine va_sld hx hb hXs hbl hbA hS (z_in rfl (by omega) (by omega)) dL_law_268 ?_
        refine lq_top (v := s1) (by rw [hs1]; exact congrArg xs (by rw [z_nat (x := x_75) rfl]; omega)) ?_
        refine lv_aload_n hx hb dL_law_269 rfl (lv_at hl 0 rfl) ?_
        refine lv_iload hx hb dL_law_270 (lv_at hl 4 rfl) ?_
        refine lv_iconst (v := 2) hx hb dL_law_272 (by decide) ?_
        refine lv_iadd hx hb dL_law_273 ?_
        refine lv_topi (fun x_76 ex_76 => ?_)
        have hx_76 := z_add ex_76 rfl (zk (x := 2) 2 rfl) (by omega) (by omega)
        refine va_sld hx hb hXs hbl hbA hS (z_in rfl (by omega) (by omega)) dL_law_274 ?_
        refine lq_top (v := s2) (by rw [hs2]; exact congrArg xs (by rw [z_nat (x := x_76) rfl]; omega)) ?_
        refine lv_aload_n hx hb dL_law_275 rfl (lv_at hl 0 rfl) ?_
        refine lv_iload hx hb dL_law_276 (lv_at hl 4 rfl) ?_
        refine lv_iconst (v := 3) hx hb dL_law_278 (by decide) ?_
        refine lv_iadd hx hb dL_law_279 ?_
        refine lv_topi (fun x_77 ex_77 => ?_)
        have hx_77 := z_add ex_77 rfl (zk (x := 3) 3 rfl) (by omega) (by omega)
        refine va_sld hx hb hXs hbl hbA hS (z_in rfl (by omega) (by omega)) dL_law_280 ?_
        refine lq_top (v := s3) (by rw [hs3]; exact congrArg xs (by rw [z_nat (x := x_77) rfl]; omega)) ?_
        have hFc := tw_free hF hS hA
        refine va_calli (va_runV (As := [.int s1, .int s2, .int s3]) (rest := []) ⟨hx, hb, hml, hown, hts⟩ (c_away l dC dI ad av H.size a k τ ln y g u s1 s2 s3 hI hFo.1) (cwV 3 hts (gi_4 (im_law _ (List.mem_of_getElem? (i := 14) rfl)) (im_law _ (List.mem_of_getElem? (i := 15) rfl)) (im_law _ (List.mem_of_getElem? (i := 16) rfl)) (im_law _ (List.mem_of_getElem? (i := 3) rfl)) im_c_away gd_c_away) rfl rfl rfl (by decide +kernel) ⟨Nat.le_of_ble_eq_true rfl, Nat.le_of_ble_eq_true rfl⟩) ⟨pw_blind, tw_recv hK hT (fx_0 hX) (by decide) cl_e10 rfl, pw_use hT hK hFc hS hM⟩ rfl rfl hl.1 rfl (lv_room (Nat.le_of_ble_eq_true rfl)) dL_law_281 ⟨by show 200 + 4 * q + 1 ≤ 601024; omega, by show 60000 + 100 * q + 3 ≤ 7293034; omega⟩) hS (fun q _ h => hFc q h) hFc (fun r0 r_78 t H locs ht hvm hw hB hz1 hk1 hS => ?_)
        clear hvm hz1 hk1
        subst hw
        have hIo := hI
        rcases hB with ⟨um_79, hre, hum_79, hf_80, ⟨tm_79, lm_79, ym_79, gm_79, hMo, hKM, hI, hT⟩⟩ | ⟨um_81, hum_81, hf_82, hf_83, hf_84, ⟨tm_81, lm_81, ym_81, gm_81, hMo, hKM, hI, hT⟩⟩
        · refine lq_top (v := (-1)) hre ?_
          rw [ht] at hT
          have hF : ∀ q, tm_79 q ≠ 0 → s.heap.size ≤ q := fun q h => hFc q (hMo.2 q h)
          have hFo := hFo.kp hIo hKM (hum_79 1 (by decide)) (hum_79 2 (by decide)) (hum_79 9 (by decide))
          have hKM := hKM.to0
          have hJ := hJ.kp hKM hI.1
          have hW : IW (v 1) (v 2) (v 9) (ym_79 (a 89)) := by rw [hKM.fx hX (j := 89) (by decide) (by decide)]; exact hW
          have hTh : vb 38408 0 4800 (ym_79 (a 99)) := by rw [hKM.fx hX (j := 99) (by decide) (by decide)]; exact hTh
          have hX := hI.1
          have : um_79 2 = u 2 := hum_79 2 (by decide)
          have : um_79 9 = u 9 := hum_79 9 (by decide)
          refine lv_pop hx hb dL_law_284 rfl ?_
          refine lv_aload_n hx hb dL_law_285 rfl (lv_at hl 2 rfl) ?_
          refine lv_aload_n hx hb dL_law_286 rfl (lv_at hl 0 rfl) ?_
          refine lv_iload hx hb dL_law_287 (lv_at hl 4 rfl) ?_
          refine lv_iconst (v := 1) hx hb dL_law_289 (by decide) ?_
          refine lv_iadd hx hb dL_law_290 ?_
          refine lv_topi (fun x_85 ex_85 => ?_)
          have hx_85 := z_add ex_85 rfl (zk (x := 1) 1 rfl) (by omega) (by omega)
          refine va_sld hx hb hXs hbl hbA hS (z_in rfl (by omega) (by omega)) dL_law_291 ?_
          refine lq_top (v := s1) (by rw [hs1]; exact congrArg xs (by rw [z_nat (x := x_85) rfl]; omega)) ?_
          refine lv_aload_n hx hb dL_law_292 rfl (lv_at hl 0 rfl) ?_
          refine lv_iload hx hb dL_law_293 (lv_at hl 4 rfl) ?_
          refine lv_iconst (v := 2) hx hb dL_law_295 (by decide) ?_
          refine lv_iadd hx hb dL_law_296 ?_
          refine lv_topi (fun x_86 ex_86 => ?_)
          have hx_86 := z_add ex_86 rfl (zk (x := 2) 2 rfl) (by omega) (by omega)
          refine va_sld hx hb hXs hbl hbA hS (z_in rfl (by omega) (by omega)) dL_law_297 ?_
          refine lq_top (v := s2) (by rw [hs2]; exact congrArg xs (by rw [z_nat (x := x_86) rfl]; omega)) ?_
          refine lv_aload_n hx hb dL_law_298 rfl (lv_at hl 0 rfl) ?_
          refine lv_iload hx hb dL_law_299 (lv_at hl 4 rfl) ?_
          refine lv_iconst (v := 3) hx hb dL_law_301 (by decide) ?_
          refine lv_iadd hx hb dL_law_302 ?_
          refine lv_topi (fun x_87 ex_87 => ?_)
          have hx_87 := z_add ex_87 rfl (zk (x := 3) 3 rfl) (by omega) (by omega)
          refine va_sld hx hb hXs hbl hbA hS (z_in rfl (by omega) (by omega)) dL_law_303 ?_
          refine lq_top (v := s3) (by rw [hs3]; exact congrArg xs (by rw [z_nat (x := x_87) rfl]; omega)) ?_
          have hFc := tw_free hF hS hA
          refine va_calli (va_runV (As := [.int s1, .int s2, .int s3]) (rest := []) ⟨hx, hb, hml, hown, hts⟩ (m_away l dC dI ad av H.size a k tm_79 lm_79 ym_79 gm_79 v s1 s2 s3 hJ h3 hW) (cwV 3 hts (gi_4 (im_law _ (List.mem_of_getElem? (i := 17) rfl)) (im_law _ (List.mem_of_getElem? (i := 18) rfl)) (im_law _ (List.mem_of_getElem? (i := 19) rfl)) (im_law _ (List.mem_of_getElem? (i := 7) rfl)) im_m_away gd_m_away) rfl rfl rfl (by decide +kernel) ⟨Nat.le_of_ble_eq_true rfl, Nat.le_of_ble_eq_true rfl⟩) ⟨pw_blind, tw_recv hK hT (fx_50 hX) (by decide) cl_e60 rfl, pw_use hT hK hFc hS hM⟩ rfl rfl hl.1 rfl (lv_room (Nat.le_of_ble_eq_true rfl)) dL_law_304 ⟨by show 200 + 4 * q + 1 + 0 ≤ 601024; omega, by show 60000 + 100 * q + 3 + 0 ≤ 7293034; omega⟩) hS (fun q _ h => hFc q h) hFc (fun r0 r_88 t H locs ht hvm hw hB hz1 hk1 hS => ?_)
          clear hvm hz1 hk1
          subst hw
          have hIo := hI
          rcases hB with ⟨um_89, ym_89, gm_89, hre, hum_89, hgm_89, hggm_89, hJ, hf_90, hf_91, hT⟩ | ⟨um_92, ym_92, gm_92, hum_92, hgm_92, hggm_92, hJ, hf_93, hf_94, hf_95, hT⟩
          · refine lq_top (v := (-1)) hre ?_
            rw [ht] at hT
            have hFo := hFo.m hIo hgm_89 (by decide) (hggm_89 (a 10) (by rw [fx_10 hX]; decide))
            have hI := hI.ag hgm_89 (by decide)
            have hI := hI.agg hggm_89
            have hW : IW (um_89 1) (um_89 2) (um_89 9) (ym_89 (a 89)) := by rw [hgm_89.at (fx_89 hX) (by decide)]; exact iw_u hW (hum_89 1 (by decide)) (hum_89 2 (by decide)) (hum_89 9 (by decide))
            have hTh : vb 38408 0 4800 (ym_89 (a 99)) := by rw [hgm_89.at (fx_99 hX) (by decide)]; exact hTh
            have : um_89 2 = v 2 := hum_89 2 (by decide)
            have : um_89 9 = v 9 := hum_89 9 (by decide)
            have : um_89 10 = v 10 := hum_89 10 (by decide)
            refine lv_pop hx hb dL_law_307 rfl ?_
            refine lv_goto (tgt := 1360) hx hb dL_law_308 (by decide) ?_
            obtain ⟨x_96, ex_96⟩ : ∃ y : Int32, y = i4 + Int32.ofInt 10 := ⟨_, rfl⟩
            have hx_96 := z_add ex_96 rfl (zk (x := Int32.ofInt 10) 10 rfl) (by omega) (by omega)
            refine lv_iinc (v := x_96) (lv' := [(4, .int x_96), (0, .ref b), (1, .ref (a 0)), (2, .ref (a 50)), (3, .ref (a 49))]) hx hb dL_law_1360 hl (k := 4) rfl ex_96.symm (by decide) rfl (fun ls hl => ?_)
            refine lv_goto (tgt := 23) hx hb dL_law_1363 (by decide) ?_
            refine W.widen (k := 200 + 4 * (q + 1)) (n := 60000 + 100 * (q + 1)) (by omega) (by omega) ?_
            exact ih (q + 1) x_96 tm_79 lm_79 ym_89 gm_89 um_79 um_89 H _ ls (by omega) hF hI hJ hW hTh hFo (by omega) (by omega) (by omega) (by omega) (by omega) hT hS (lv_sub hl [1, 2, 3, 4, 0] rfl)
          · rw [ht] at hT
            have hFo := hFo.m hIo hgm_92 (by decide) (hggm_92 (a 10) (by rw [fx_10 hX]; decide))
            have hI := hI.ag hgm_92 (by decide)
            have hI := hI.agg hggm_92
            have hW : IW (um_92 1) (um_92 2) (um_92 9) (ym_92 (a 89)) := by rw [hgm_92.at (fx_89 hX) (by decide)]; exact iw_u hW (hum_92 1 (by decide)) (hum_92 2 (by decide)) (hum_92 9 (by decide))
            have hTh : vb 38408 0 4800 (ym_92 (a 99)) := by rw [hgm_92.at (fx_99 hX) (by decide)]; exact hTh
            have : um_92 2 = v 2 := hum_92 2 (by decide)
            have : um_92 9 = v 9 := hum_92 9 (by decide)
            have : um_92 10 = v 10 := hum_92 10 (by decide)
            refine lv_pop hx hb dL_law_307 rfl ?_
            refine lv_goto (tgt := 1360) hx hb dL_law_308 (by decide) ?_
            obtain ⟨x_97, ex_97⟩ : ∃ y : Int32, y = i4 + Int32.ofInt 10 := ⟨_, rfl⟩
            have hx_97 := z_add ex_97 rfl (zk (x := Int32.ofInt 10) 10 rfl) (by omega) (by omega)
            refine lv_iinc (v := x_97) (lv' := [(4, .int x_97), (0, .ref b), (1, .ref (a 0)), (2, .ref (a 50)), (3, .ref (a 49))]) hx hb dL_law_1360 hl (k := 4) rfl ex_97.symm (by decide) rfl (fun ls hl => ?_)
            refine lv_goto (tgt := 23) hx hb dL_law_1363 (by decide) ?_
            refine W.widen (k := 200 + 4 * (q + 1)) (n := 60000 + 100 * (q + 1)) (by omega) (by omega) ?_
            exact ih (q + 1) x_97 tm_79 lm_79 ym_92 gm_92 um_79 um_92 H _ ls (by omega) hF hI hJ hW hTh hFo (by omega) (by omega) (by omega) (by omega) (by omega) hT hS (lv_sub hl [1, 2, 3, 4, 0] rfl)
        · rw [ht] at hT
          have hF : ∀ q, tm_81 q ≠ 0 → s.heap.size ≤ q := fun q h => hFc q (hMo.2 q h)
          have hFo := hFo.kp hIo hKM (hum_81 1 (by decide)) (hum_81 2 (by decide)) (hum_81 9 (by decide))
          have hKM := hKM.to0
          have hJ := hJ.kp hKM hI.1
          have hW : IW (v 1) (v 2) (v 9) (ym_81 (a 89)) := by rw [hKM.fx hX (j := 89) (by decide) (by decide)]; exact hW
          have hTh : vb 38408 0 4800 (ym_81 (a 99)) := by rw [hKM.fx hX (j := 99) (by decide) (by decide)]; exact hTh
          have hX := hI.1
          have : um_81 2 = u 2 := hum_81 2 (by decide)
          have : um_81 9 = u 9 := hum_81 9 (by decide)
          refine lv_pop hx hb dL_law_284 rfl ?_
          refine lv_aload_n hx hb dL_law_285 rfl (lv_at hl 2 rfl) ?_
          refine lv_aload_n hx hb dL_law_286 rfl (lv_at hl 0 rfl) ?_
          refine lv_iload hx hb dL_law_287 (lv_at hl 4 rfl) ?_
          refine lv_iconst (v := 1) hx hb dL_law_289 (by decide) ?_
          refine lv_iadd hx hb dL_law_290 ?_
          refine lv_topi (fun x_98 ex_98 => ?_)
          have hx_98 := z_add ex_98 rfl (zk (x := 1) 1 rfl) (by omega) (by omega)
          refine va_sld hx hb hXs hbl hbA hS (z_in rfl (by omega) (by omega)) dL_law_291 ?_
          refine lq_top (v := s1) (by rw [hs1]; exact congrArg xs (by rw [z_nat (x := x_98) rfl]; omega)) ?_
          refine lv_aload_n hx hb dL_law_292 rfl (lv_at hl 0 rfl) ?_
          refine lv_iload hx hb dL_law_293 (lv_at hl 4 rfl) ?_
          refine lv_iconst (v := 2) hx hb dL_law_295 (by decide) ?_
          refine lv_iadd hx hb dL_law_296 ?_
          refine lv_topi (fun x_99 ex_99 => ?_)
          have hx_99 := z_add ex_99 rfl (zk (x := 2) 2 rfl) (by omega) (by omega)
          refine va_sld hx hb hXs hbl hbA hS (z_in rfl (by omega) (by omega)) dL_law_297 ?_
          refine lq_top (v := s2) (by rw [hs2]; exact congrArg xs (by rw [z_nat (x := x_99) rfl]; omega)) ?_
          refine lv_aload_n hx hb dL_law_298 rfl (lv_at hl 0 rfl) ?_
          refine lv_iload hx hb dL_law_299 (lv_at hl 4 rfl) ?_
          refine lv_iconst (v := 3) hx hb dL_law_301 (by decide) ?_
          refine lv_iadd hx hb dL_law_302 ?_
          refine lv_topi (fun x_100 ex_100 => ?_)
          have hx_100 := z_add ex_100 rfl (zk (x := 3) 3 rfl) (by omega) (by omega)
          refine va_sld hx hb hXs hbl hbA hS (z_in rfl (by omega) (by omega)) dL_law_303 ?_
          refine lq_top (v := s3) (by rw [hs3]; exact congrArg xs (by rw [z_nat (x := x_100) rfl]; omega)) ?_
          have hFc := tw_free hF hS hA
          refine va_calli (va_runV (As := [.int s1, .int s2, .int s3]) (rest := []) ⟨hx, hb, hml, hown, hts⟩ (m_away l dC dI ad av H.size a k tm_81 lm_81 ym_81 gm_81 v s1 s2 s3 hJ h3 hW) (cwV 3 hts (gi_4 (im_law _ (List.mem_of_getElem? (i := 17) rfl)) (im_law _ (List.mem_of_getElem? (i := 18) rfl)) (im_law _ (List.mem_of_getElem? (i := 19) rfl)) (im_law _ (List.mem_of_getElem? (i := 7) rfl)) im_m_away gd_m_away) rfl rfl rfl (by decide +kernel) ⟨Nat.le_of_ble_eq_true rfl, Nat.le_of_ble_eq_true rfl⟩) ⟨pw_blind, tw_recv hK hT (fx_50 hX) (by decide) cl_e60 rfl, pw_use hT hK hFc hS hM⟩ rfl rfl hl.1 rfl (lv_room (Nat.le_of_ble_eq_true rfl)) dL_law_304 ⟨by show 200 + 4 * q + 1 + 0 ≤ 601024; omega, by show 60000 + 100 * q + 3 + 0 ≤ 7293034; omega⟩) hS (fun q _ h => hFc q h) hFc (fun r0 r_101 t H locs ht hvm hw hB hz1 hk1 hS => ?_)
          clear hvm hz1 hk1
          subst hw
          have hIo := hI
          rcases hB with ⟨um_102, ym_102, gm_102, hre, hum_102, hgm_102, hggm_102, hJ, hf_103, hf_104, hT⟩ | ⟨um_105, ym_105, gm_105, hum_105, hgm_105, hggm_105, hJ, hf_106, hf_107, hf_108, hT⟩
          · refine lq_top (v := (-1)) hre ?_
            rw [ht] at hT
            have hFo := hFo.m hIo hgm_102 (by decide) (hggm_102 (a 10) (by rw [fx_10 hX]; decide))
            have hI := hI.ag hgm_102 (by decide)
            have hI := hI.agg hggm_102
            have hW : IW (um_102 1) (um_102 2) (um_102 9) (ym_102 (a 89)) := by rw [hgm_102.at (fx_89 hX) (by decide)]; exact iw_u hW (hum_102 1 (by decide)) (hum_102 2 (by decide)) (hum_102 9 (by decide))
            have hTh : vb 38408 0 4800 (ym_102 (a 99)) := by rw [hgm_102.at (fx_99 hX) (by decide)]; exact hTh
            have : um_102 2 = v 2 := hum_102 2 (by decide)
            have : um_102 9 = v 9 := hum_102 9 (by decide)
            have : um_102 10 = v 10 := hum_102 10 (by decide)
            refine lv_pop hx hb dL_law_307 rfl ?_
            refine lv_goto (tgt := 1360) hx hb dL_law_308 (by decide) ?_
            obtain ⟨x_109, ex_109⟩ : ∃ y : Int32, y = i4 + Int32.ofInt 10 := ⟨_, rfl⟩
            have hx_109 := z_add ex_109 rfl (zk (x := Int32.ofInt 10) 10 rfl) (by omega) (by omega)
            refine lv_iinc (v := x_109) (lv' := [(4, .int x_109), (0, .ref b), (1, .ref (a 0)), (2, .ref (a 50)), (3, .ref (a 49))]) hx hb dL_law_1360 hl (k := 4) rfl ex_109.symm (by decide) rfl (fun ls hl => ?_)
            refine lv_goto (tgt := 23) hx hb dL_law_1363 (by decide) ?_
            refine W.widen (k := 200 + 4 * (q + 1)) (n := 60000 + 100 * (q + 1)) (by omega) (by omega) ?_
            exact ih (q + 1) x_109 tm_81 lm_81 ym_102 gm_102 um_81 um_102 H _ ls (by omega) hF hI hJ hW hTh hFo (by omega) (by omega) (by omega) (by omega) (by omega) hT hS (lv_sub hl [1, 2, 3, 4, 0] rfl)
          · rw [ht] at hT
            have hFo := hFo.m hIo hgm_105 (by decide) (hggm_105 (a 10) (by rw [fx_10 hX]; decide))
            have hI := hI.ag hgm_105 (by decide)
            have hI := hI.agg hggm_105
            have hW : IW (um_105 1) (um_105 2) (um_105 9) (ym_105 (a 89)) := by rw [hgm_105.at (fx_89 hX) (by decide)]; exact iw_u hW (hum_105 1 (by decide)) (hum_105 2 (by decide)) (hum_105 9 (by decide))
            have hTh : vb 38408 0 4800 (ym_105 (a 99)) := by rw [hgm_105.at (fx_99 hX) (by decide)]; exact hTh
            have : um_105 2 = v 2 := hum_105 2 (by decide)
            have : um_105 9 = v 9 := hum_105 9 (by decide)
            have : um_105 10 = v 10 := hum_105 10 (by decide)
            refine lv_pop hx hb dL_law_307 rfl ?_
            refine lv_goto (tgt := 1360) hx hb dL_law_308 (by decide) ?_
            obtain ⟨x_110, ex_110⟩ : ∃ y : Int32, y = i4 + Int32.ofInt 10 := ⟨_, rfl⟩
            have hx_110 := z_add ex_110 rfl (zk (x := Int32.ofInt 10) 10 rfl) (by omega) (by omega)
            refine lv_iinc (v := x_110) (lv' := [(4, .int x_110), (0, .ref b), (1, .ref (a 0)), (2, .ref (a 50)), (3, .ref (a 49))]) hx hb dL_law_1360 hl (k := 4) rfl ex_110.symm (by decide) rfl (fun ls hl => ?_)
            refine lv_goto (tgt := 23) hx hb dL_law_1363 (by decide) ?_
            refine W.widen (k := 200 + 4 * (q + 1)) (n := 60000 + 100 * (q + 1)) (by omega) (by omega) ?_
            exact ih (q + 1) x_110 tm_81 lm_81 ym_105 gm_105 um_81 um_105 H _ ls (by omega) hF hI hJ hW hTh hFo (by omega) (by omega) (by omega) (by omega) (by omega) hT hS (lv_sub hl [1, 2, 3, 4, 0] rfl)
      · refine lq_top (v := 3) t_5 ?_
        have nt_5 := z_eq rfl (zk (x := 3) 3 rfl) t_5
        refine lv_tableIn (tgt := 311) hx hb dL_law_40 (by decide) (by decide) (off := 271) (by decide) (by decide) ?_
        refine lv_aload_n hx hb dL_law_311 rfl (lv_at hl 1 rfl) ?_
        refine lv_aload_n hx hb dL_law_312 rfl (lv_at hl 0 rfl) ?_
        refine lv_iload hx hb dL_law_313 (lv_at hl 4 rfl) ?_
        refine lv_iconst (v := 1) hx hb dL_law_315 (by decide) ?_
        refine lv_iadd hx hb dL_law_316 ?_
        refine lv_topi (fun x_111 ex_111 => ?_)
        have hx_111 := z_add ex_111 rfl (zk (x := 1) 1 rfl) (by omega) (by omega)
        refine va_sld hx hb hXs hbl hbA hS (z_in rfl (by omega) (by omega)) dL_law_317 ?_
        refine lq_top (v := s1) (by rw [hs1]; exact congrArg xs (by rw [z_nat (x := x_111) rfl]; omega)) ?_
        refine lv_aload_n hx hb dL_law_318 rfl (lv_at hl 0 rfl) ?_
        refine lv_iload hx hb dL_law_319 (lv_at hl 4 rfl) ?_
        refine lv_iconst (v := 2) hx hb dL_law_321 (by decide) ?_
        refine lv_iadd hx hb dL_law_322 ?_
        refine lv_topi (fun x_112 ex_112 => ?_)
        have hx_112 := z_add ex_112 rfl (zk (x := 2) 2 rfl) (by omega) (by omega)
        refine va_sld hx hb hXs hbl hbA hS (z_in rfl (by omega) (by omega)) dL_law_323 ?_
        refine lq_top (v := s2) (by rw [hs2]; exact congrArg xs (by rw [z_nat (x := x_112) rfl]; omega)) ?_
        refine lv_aload_n hx hb dL_law_324 rfl (lv_at hl 0 rfl) ?_
        refine lv_iload hx hb dL_law_325 (lv_at hl 4 rfl) ?_
        refine lv_iconst (v := 3) hx hb dL_law_327 (by decide) ?_
        refine lv_iadd hx hb dL_law_328 ?_
        refine lv_topi (fun x_113 ex_113 => ?_)
        have hx_113 := z_add ex_113 rfl (zk (x := 3) 3 rfl) (by omega) (by omega)
        refine va_sld hx hb hXs hbl hbA hS (z_in rfl (by omega) (by omega)) dL_law_329 ?_
        refine lq_top (v := s3) (by rw [hs3]; exact congrArg xs (by rw [z_nat (x := x_113) rfl]; omega)) ?_
        refine lv_aload_n hx hb dL_law_330 rfl (lv_at hl 0 rfl) ?_
        refine lv_iload hx hb dL_law_331 (lv_at hl 4 rfl) ?_
        refine lv_iconst (v := 4) hx hb dL_law_333 (by decide) ?_
        refine lv_iadd hx hb dL_law_334 ?_
        refine lv_topi (fun x_114 ex_114 => ?_)
        have hx_114 := z_add ex_114 rfl (zk (x := 4) 4 rfl) (by omega) (by omega)
        refine va_sld hx hb hXs hbl hbA hS (z_in rfl (by omega) (by omega)) dL_law_335 ?_
        refine lq_top (v := s4) (by rw [hs4]; exact congrArg xs (by rw [z_nat (x := x_114) rfl]; omega)) ?_
        refine lv_aload_n hx hb dL_law_336 rfl (lv_at hl 0 rfl) ?_
        refine lv_iload hx hb dL_law_337 (lv_at hl 4 rfl) ?_
        refine lv_iconst (v := 5) hx hb dL_law_339 (by decide) ?_
        refine lv_iadd hx hb dL_law_340 ?_
        refine lv_topi (fun x_115 ex_115 => ?_)
        have hx_115 := z_add ex_115 rfl (zk (x := 5) 5 rfl) (by omega) (by omega)
        refine va_sld hx hb hXs hbl hbA hS (z_in rfl (by omega) (by omega)) dL_law_341 ?_
        refine lq_top (v := s5) (by rw [hs5]; exact congrArg xs (by rw [z_nat (x := x_115) rfl]; omega)) ?_
        refine lv_aload_n hx hb dL_law_342 rfl (lv_at hl 0 rfl) ?_
        refine lv_iload hx hb dL_law_343 (lv_at hl 4 rfl) ?_
        refine lv_bipush (v := 6) hx hb dL_law_345 (by decide) ?_
        refine lv_iadd hx hb dL_law_347 ?_
        refine lv_topi (fun x_116 ex_116 => ?_)
        have hx_116 := z_add ex_116 rfl (zk (x := 6) 6 rfl) (by omega) (by omega)
        refine va_sld hx hb hXs hbl hbA hS (z_in rfl (by omega) (by omega)) dL_law_348 ?_
        refine lq_top (v := s6) (by rw [hs6]; exact congrArg xs (by rw [z_nat (x := x_116) rfl]; omega)) ?_
        refine lv_aload_n hx hb dL_law_349 rfl (lv_at hl 0 rfl) ?_
        refine lv_iload hx hb dL_law_350 (lv_at hl 4 rfl) ?_
        refine lv_bipush (v := 7) hx hb dL_law_352 (by decide) ?_
        refine lv_iadd hx hb dL_law_354 ?_
        refine lv_topi (fun x_117 ex_117 => ?_)
        have hx_117 := z_add ex_117 rfl (zk (x := 7) 7 rfl) (by omega) (by omega)
        refine va_sld hx hb hXs hbl hbA hS (z_in rfl (by omega) (by omega)) dL_law_355 ?_
        refine lq_top (v := s7) (by rw [hs7]; exact congrArg xs (by rw [z_nat (x := x_117) rfl]; omega)) ?_
        refine lv_aload_n hx hb dL_law_356 rfl (lv_at hl 0 rfl) ?_
        refine lv_iload hx hb dL_law_357 (lv_at hl 4 rfl) ?_
        refine lv_bipush (v := 8) hx hb dL_law_359 (by decide) ?_
        refine lv_iadd hx hb dL_law_361 ?_
        refine lv_topi (fun x_118 ex_118 => ?_)
        have hx_118 := z_add ex_118 rfl (zk (x := 8) 8 rfl) (by omega) (by omega)
        refine va_sld hx hb hXs hbl hbA hS (z_in rfl (by omega) (by omega)) dL_law_362 ?_
        refine lq_top (v := s8) (by rw [hs8]; exact congrArg xs (by rw [z_nat (x := x_118) rfl]; omega)) ?_
        refine lv_aload_n hx hb dL_law_363 rfl (lv_at hl 0 rfl) ?_
        refine lv_iload hx hb dL_law_364 (lv_at hl 4 rfl) ?_
        refine lv_bipush (v := 9) hx hb dL_law_366 (by decide) ?_
        refine lv_iadd hx hb dL_law_368 ?_
        refine lv_topi (fun x_119 ex_119 => ?_)
        have hx_119 := z_add ex_119 rfl (zk (x := 9) 9 rfl) (by omega) (by omega)
        refine va_sld hx hb hXs hbl hbA hS (z_in rfl (by omega) (by omega)) dL_law_369 ?_
        refine lq_top (v := s9) (by rw [hs9]; exact congrArg xs (by rw [z_nat (x := x_119) rfl]; omega)) ?_
        have hFc := tw_free hF hS hA
        refine va_calli (va_runV (As := [.int s1, .int s2, .int s3, .int s4, .int s5, .int s6, .int s7, .int s8, .int s9]) (rest := []) ⟨hx, hb, hml, hown, hts⟩ (c_pieceF l dC dI ad av H.size a k τ ln y g u s1 s2 s3 s4 s5 s6 s7 s8 s9 hI hFo) (cwV 9 hts (gi_4 (im_law _ (List.mem_of_getElem? (i := 20) rfl)) (im_law _ (List.mem_of_getElem? (i := 21) rfl)) (im_law _ (List.mem_of_getElem? (i := 22) rfl)) (im_law _ (List.mem_of_getElem? (i := 3) rfl)) im_c_pieceF gd_c_pieceF) rfl rfl rfl (by decide +kernel) ⟨Nat.le_of_ble_eq_true rfl, Nat.le_of_ble_eq_true rfl⟩) ⟨pw_blind, tw_recv hK hT (fx_0 hX) (by decide) cl_e10 rfl, pw_use hT hK hFc hS hM⟩ rfl rfl hl.1 rfl (lv_room (Nat.le_of_ble_eq_true rfl)) dL_law_370 ⟨by show 200 + 4 * q + 1 ≤ 601024; omega, by show 60000 + 100 * q + 11 ≤ 7293034; omega⟩) hS (fun q _ h => hFc q h) hFc (fun r0 r_120 t H locs ht hvm hw hB hz1 hk1 hS => ?_)
        clear hvm hz1 hk1
        subst hw
        have hIo := hI
        rcases hB with ⟨um_121, hre, hum_121, hf_122, ⟨tm_121, lm_121, ym_121, gm_121, hMo, hKM, hI, hFo, hT⟩⟩ | ⟨um_123, hum_123, hf_124, hf_125, hf_126, ⟨tm_123, lm_123, ym_123, gm_123, hMo, hKM, hI, hFo, hT⟩⟩
        · refine lq_top (v := (-1)) hre ?_
          rw [ht] at hT
          have hF : ∀ q, tm_121 q ≠ 0 → s.heap.size ≤ q := fun q h => hFc q (hMo.2 q h)
          have hJ := hJ.kp hKM hI.1
          have hW : IW (v 1) (v 2) (v 9) (ym_121 (a 89)) := by rw [hKM.fx hX (j := 89) (by decide) (by decide)]; exact hW
          have hTh : vb 38408 0 4800 (ym_121 (a 99)) := by rw [hKM.fx hX (j := 99) (by decide) (by decide)]; exact hTh
          have hX := hI.1
          have : um_121 2 = u 2 := hum_121 2 (by decide)
          have : um_121 9 = u 9 := hum_121 9 (by decide)
          refine lv_pop hx hb dL_law_373 rfl ?_
          refine lv_aload_n hx hb dL_law_374 rfl (lv_at hl 2 rfl) ?_
          refine lv_aload_n hx hb dL_law_375 rfl (lv_at hl 0 rfl) ?_
          refine lv_iload hx hb dL_law_376 (lv_at hl 4 rfl) ?_
          refine lv_iconst (v := 1) hx hb dL_law_378 (by decide) ?_
          refine lv_iadd hx hb dL_law_379 ?_
          refine lv_topi (fun x_127 ex_127 => ?_)
          have hx_127 := z_add ex_127 rfl (zk (x := 1) 1 rfl) (by omega) (by omega)
          refine va_sld hx hb hXs hbl hbA hS (z_in rfl (by omega) (by omega)) dL_law_380 ?_
          refine lq_top (v := s1) (by rw [hs1]; exact congrArg xs (by rw [z_nat (x := x_127) rfl]; omega)) ?_
          refine lv_aload_n hx hb dL_law_381 rfl (lv_at hl 0 rfl) ?_
          refine lv_iload hx hb dL_law_382 (lv_at hl 4 rfl) ?_
          refine lv_iconst (v := 2) hx hb dL_law_384 (by decide) ?_
          refine lv_iadd hx hb dL_law_385 ?_
          refine lv_topi (fun x_128 ex_128 => ?_)
          have hx_128 := z_add ex_128 rfl (zk (x := 2) 2 rfl) (by omega) (by omega)
          refine va_sld hx hb hXs hbl hbA hS (z_in rfl (by omega) (by omega)) dL_law_386 ?_
          refine lq_top (v := s2) (by rw [hs2]; exact congrArg xs (by rw [z_nat (x := x_128) rfl]; omega)) ?_
          refine lv_aload_n hx hb dL_law_387 rfl (lv_at hl 0 rfl) ?_
          refine lv_iload hx hb dL_law_388 (lv_at hl 4 rfl) ?_
          refine lv_iconst (v := 3) hx hb dL_law_390 (by decide) ?_
          refine lv_iadd hx hb dL_law_391 ?_
          refine lv_topi (fun x_129 ex_129 => ?_)
          have hx_129 := z_add ex_129 rfl (zk (x := 3) 3 rfl) (by omega) (by omega)
          refine va_sld hx hb hXs hbl hbA hS (z_in rfl (by omega) (by omega)) dL_law_392 ?_
          refine lq_top (v := s3) (by rw [hs3]; exact congrArg xs (by rw [z_nat (x := x_129) rfl]; omega)) ?_
          refine lv_aload_n hx hb dL_law_393 rfl (lv_at hl 0 rfl) ?_
          refine lv_iload hx hb dL_law_394 (lv_at hl 4 rfl) ?_
          refine lv_iconst (v := 4) hx hb dL_law_396 (by decide) ?_
          refine lv_iadd hx hb dL_law_397 ?_
          refine lv_topi (fun x_130 ex_130 => ?_)
          have hx_130 := z_add ex_130 rfl (zk (x := 4) 4 rfl) (by omega) (by omega)
          refine va_sld hx hb hXs hbl hbA hS (z_in rfl (by omega) (by omega)) dL_law_398 ?_
          refine lq_top (v := s4) (by rw [hs4]; exact congrArg xs (by rw [z_nat (x := x_130) rfl]; omega)) ?_
          refine lv_aload_n hx hb dL_law_399 rfl (lv_at hl 0 rfl) ?_
          refine lv_iload hx hb dL_law_400 (lv_at hl 4 rfl) ?_
          refine lv_iconst (v := 5) hx hb dL_law_402 (by decide) ?_
          refine lv_iadd hx hb dL_law_403 ?_
          refine lv_topi (fun x_131 ex_131 => ?_)
          have hx_131 := z_add ex_131 rfl (zk (x := 5) 5 rfl) (by omega) (by omega)
          refine va_sld hx hb hXs hbl hbA hS (z_in rfl (by omega) (by omega)) dL_law_404 ?_
          refine lq_top (v := s5) (by rw [hs5]; exact congrArg xs (by rw [z_nat (x := x_131) rfl]; omega)) ?_
          refine lv_aload_n hx hb dL_law_405 rfl (lv_at hl 0 rfl) ?_
          refine lv_iload hx hb dL_law_406 (lv_at hl 4 rfl) ?_
          refine lv_bipush (v := 6) hx hb dL_law_408 (by decide) ?_
          refine lv_iadd hx hb dL_law_410 ?_
          refine lv_topi (fun x_132 ex_132 => ?_)
          have hx_132 := z_add ex_132 rfl (zk (x := 6) 6 rfl) (by omega) (by omega)
          refine va_sld hx hb hXs hbl hbA hS (z_in rfl (by omega) (by omega)) dL_law_411 ?_
          refine lq_top (v := s6) (by rw [hs6]; exact congrArg xs (by rw [z_nat (x := x_132) rfl]; omega)) ?_
          refine lv_aload_n hx hb dL_law_412 rfl (lv_at hl 0 rfl) ?_
          refine lv_iload hx hb dL_law_413 (lv_at hl 4 rfl) ?_
          refine lv_bipush (v := 7) hx hb dL_law_415 (by decide) ?_
          refine lv_iadd hx hb dL_law_417 ?_
          refine lv_topi (fun x_133 ex_133 => ?_)
          have hx_133 := z_add ex_133 rfl (zk (x := 7) 7 rfl) (by omega) (by omega)
          refine va_sld hx hb hXs hbl hbA hS (z_in rfl (by omega) (by omega)) dL_law_418 ?_
          refine lq_top (v := s7) (by rw [hs7]; exact congrArg xs (by rw [z_nat (x := x_133) rfl]; omega)) ?_
          refine lv_aload_n hx hb dL_law_419 rfl (lv_at hl 0 rfl) ?_
          refine lv_iload hx hb dL_law_420 (lv_at hl 4 rfl) ?_
          refine lv_bipush (v := 8) hx hb dL_law_422 (by decide) ?_
          refine lv_iadd hx hb dL_law_424 ?_
          refine lv_topi (fun x_134 ex_134 => ?_)
          have hx_134 := z_add ex_134 rfl (zk (x := 8) 8 rfl) (by omega) (by omega)
          refine va_sld hx hb hXs hbl hbA hS (z_in rfl (by omega) (by omega)) dL_law_425 ?_
          refine lq_top (v := s8) (by rw [hs8]; exact congrArg xs (by rw [z_nat (x := x_134) rfl]; omega)) ?_
          refine lv_aload_n hx hb dL_law_426 rfl (lv_at hl 0 rfl) ?_
          refine lv_iload hx hb dL_law_427 (lv_at hl 4 rfl) ?_
          refine lv_bipush (v := 9) hx hb dL_law_429 (by decide) ?_
          refine lv_iadd hx hb dL_law_431 ?_
          refine lv_topi (fun x_135 ex_135 => ?_)
          have hx_135 := z_add ex_135 rfl (zk (x := 9) 9 rfl) (by omega) (by omega)
          refine va_sld hx hb hXs hbl hbA hS (z_in rfl (by omega) (by omega)) dL_law_432 ?_
          refine lq_top (v := s9) (by rw [hs9]; exact congrArg xs (by rw [z_nat (x := x_135) rfl]; omega)) ?_
          have hFc := tw_free hF hS hA
          refine va_calli (va_runV (As := [.int s1, .int s2, .int s3, .int s4, .int s5, .int s6, .int s7, .int s8, .int s9]) (rest := []) ⟨hx, hb, hml, hown, hts⟩ (m_pieceN l dC dI ad av H.size a k tm_121 lm_121 ym_121 gm_121 v s1 s2 s3 s4 s5 s6 s7 s8 s9 hJ hW) (cwV 9 hts (gi_4 (im_law _ (List.mem_of_getElem? (i := 23) rfl)) (im_law _ (List.mem_of_getElem? (i := 24) rfl)) (im_law _ (List.mem_of_getElem? (i := 25) rfl)) (im_law _ (List.mem_of_getElem? (i := 7) rfl)) im_m_pieceN gd_m_pieceN) rfl rfl rfl (by decide +kernel) ⟨Nat.le_of_ble_eq_true rfl, Nat.le_of_ble_eq_true rfl⟩) ⟨pw_blind, tw_recv hK hT (fx_50 hX) (by decide) cl_e60 rfl, pw_use hT hK hFc hS hM⟩ rfl rfl hl.1 rfl (lv_room (Nat.le_of_ble_eq_true rfl)) dL_law_433 ⟨by show 200 + 4 * q + 1 + 0 ≤ 601024; omega, by show 60000 + 100 * q + 11 + 0 ≤ 7293034; omega⟩) hS (fun q _ h => hFc q h) hFc (fun r0 r_136 t H locs ht hvm hw hB hz1 hk1 hS => ?_)
          clear hvm hz1 hk1
          subst hw
          have hIo := hI
          rcases hB with ⟨um_137, ym_137, gm_137, hre, hum_137, hgm_137, hggm_137, hJ, hW, hf_138, hf_139, hT⟩ | ⟨um_140, ym_140, gm_140, hum_140, hgm_140, hggm_140, hJ, hW, hf_141, hf_142, hf_143, hT⟩
          · refine lq_top (v := (-1)) hre ?_
            rw [ht] at hT
            have hFo := hFo.m hIo hgm_137 (by decide) (hggm_137 (a 10) (by rw [fx_10 hX]; decide))
            have hI := hI.ag hgm_137 (by decide)
            have hI := hI.agg hggm_137
            have hTh : vb 38408 0 4800 (ym_137 (a 99)) := by rw [hgm_137.at (fx_99 hX) (by decide)]; exact hTh
            have : um_137 9 = v 9 := hum_137 9 (by decide)
            have : um_137 3 = v 3 := hum_137 3 (by decide)
            have : um_137 10 = v 10 := hum_137 10 (by decide)
            refine lv_pop hx hb dL_law_436 rfl ?_
            refine lv_goto (tgt := 1360) hx hb dL_law_437 (by decide) ?_
            obtain ⟨x_144, ex_144⟩ : ∃ y : Int32, y = i4 + Int32.ofInt 10 := ⟨_, rfl⟩
            have hx_144 := z_add ex_144 rfl (zk (x := Int32.ofInt 10) 10 rfl) (by omega) (by omega)
            refine lv_iinc (v := x_144) (lv' := [(4, .int x_144), (0, .ref b), (1, .ref (a 0)), (2, .ref (a 50)), (3, .ref (a 49))]) hx hb dL_law_1360 hl (k := 4) rfl ex_144.symm (by decide) rfl (fun ls hl => ?_)
            refine lv_goto (tgt := 23) hx hb dL_law_1363 (by decide) ?_
            refine W.widen (k := 200 + 4 * (q + 1)) (n := 60000 + 100 * (q + 1)) (by omega) (by omega) ?_
            exact ih (q + 1) x_144 tm_121 lm_121 ym_137 gm_137 um_121 um_137 H _ ls (by omega) hF hI hJ hW hTh hFo (by omega) (by omega) (by omega) (by omega) (by omega) hT hS (lv_sub hl [1, 2, 3, 4, 0] rfl)
          · rw [ht] at hT
            have hFo := hFo.m hIo hgm_140 (by decide) (hggm_140 (a 10) (by rw [fx_10 hX]; decide))
            have hI := hI.ag hgm_140 (by decide)
            have hI := hI.agg hggm_140
            have hTh : vb 38408 0 4800 (ym_140 (a 99)) := by rw [hgm_140.at (fx_99 hX) (by decide)]; exact hTh
            have : um_140 9 = v 9 := hum_140 9 (by decide)
            have : um_140 3 = v 3 := hum_140 3 (by decide)
            have : um_140 10 = v 10 := hum_140 10 (by decide)
            refine lv_pop hx hb dL_law_436 rfl ?_
            refine lv_goto (tgt := 1360) hx hb dL_law_437 (by decide) ?_
            obtain ⟨x_145, ex_145⟩ : ∃ y : Int32, y = i4 + Int32.ofInt 10 := ⟨_, rfl⟩
            have hx_145 := z_add ex_145 rfl (zk (x := Int32.ofInt 10) 10 rfl) (by omega) (by omega)
            refine lv_iinc (v := x_145) (lv' := [(4, .int x_145), (0, .ref b), (1, .ref (a 0)), (2, .ref (a 50)), (3, .ref (a 49))]) hx hb dL_law_1360 hl (k := 4) rfl ex_145.symm (by decide) rfl (fun ls hl => ?_)
            refine lv_goto (tgt := 23) hx hb dL_law_1363 (by decide) ?_
            refine W.widen (k := 200 + 4 * (q + 1)) (n := 60000 + 100 * (q + 1)) (by omega) (by omega) ?_
            exact ih (q + 1) x_145 tm_121 lm_121 ym_140 gm_140 um_121 um_140 H _ ls (by omega) hF hI hJ hW hTh hFo (by omega) (by omega) (by omega) (by omega) (by omega) hT hS (lv_sub hl [1, 2, 3, 4, 0] rfl)
        · rw [ht] at hT
          have hF : ∀ q, tm_123 q ≠ 0 → s.heap.size ≤ q := fun q h => hFc q (hMo.2 q h)
          have hJ := hJ.kp hKM hI.1
          have hW : IW (v 1) (v 2) (v 9) (ym_123 (a 89)) := by rw [hKM.fx hX (j := 89) (by decide) (by decide)]; exact hW
          have hTh : vb 38408 0 4800 (ym_123 (a 99)) := by rw [hKM.fx hX (j := 99) (by decide) (by decide)]; exact hTh
          have hX := hI.1
          have : um_123 9 = u 9 := hum_123 9 (by decide)
          refine lv_pop hx hb dL_law_373 rfl ?_
          refine lv_aload_n hx hb dL_law_374 rfl (lv_at hl 2 rfl) ?_
          refine lv_aload_n hx hb dL_law_375 rfl (lv_at hl 0 rfl) ?_
          refine lv_iload hx hb dL_law_376 (lv_at hl 4 rfl) ?_
          refine lv_iconst (v := 1) hx hb dL_law_378 (by decide) ?_
          refine lv_iadd hx hb dL_law_379 ?_
          refine lv_topi (fun x_146 ex_146 => ?_)
          have hx_146 := z_add ex_146 rfl (zk (x := 1) 1 rfl) (by omega) (by omega)
          refine va_sld hx hb hXs hbl hbA hS (z_in rfl (by omega) (by omega)) dL_law_380 ?_
          refine lq_top (v := s1) (by rw [hs1]; exact congrArg xs (by rw [z_nat (x := x_146) rfl]; omega)) ?_
          refine lv_aload_n hx hb dL_law_381 rfl (lv_at hl 0 rfl) ?_
          refine lv_iload hx hb dL_law_382 (lv_at hl 4 rfl) ?_
          refine lv_iconst (v := 2) hx hb dL_law_384 (by decide) ?_
          refine lv_iadd hx hb dL_law_385 ?_
          refine lv_topi (fun x_147 ex_147 => ?_)
          have hx_147 := z_add ex_147 rfl (zk (x := 2) 2 rfl) (by omega) (by omega)
          refine va_sld hx hb hXs hbl hbA hS (z_in rfl (by omega) (by omega)) dL_law_386 ?_
          refine lq_top (v := s2) (by rw [hs2]; exact congrArg xs (by rw [z_nat (x := x_147) rfl]; omega)) ?_
          refine lv_aload_n hx hb dL_law_387 rfl (lv_at hl 0 rfl) ?_
          refine lv_iload hx hb dL_law_388 (lv_at hl 4 rfl) ?_
          refine lv_iconst (v := 3) hx hb dL_law_390 (by decide) ?_
          refine lv_iadd hx hb dL_law_391 ?_
          refine lv_topi (fun x_148 ex_148 => ?_)
          have hx_148 := z_add ex_148 rfl (zk (x := 3) 3 rfl) (by omega) (by omega)
          refine va_sld hx hb hXs hbl hbA hS (z_in rfl (by omega) (by omega)) dL_law_392 ?_
          refine lq_top (v := s3) (by rw [hs3]; exact congrArg xs (by rw [z_nat (x := x_148) rfl]; omega)) ?_
          refine lv_aload_n hx hb dL_law_393 rfl (lv_at hl 0 rfl) ?_
          refine lv_iload hx hb dL_law_394 (lv_at hl 4 rfl) ?_
          refine lv_iconst (v := 4) hx hb dL_law_396 (by decide) ?_
          refine lv_iadd hx hb dL_law_397 ?_
          refine lv_topi (fun x_149 ex_149 => ?_)
          have hx_149 := z_add ex_149 rfl (zk (x := 4) 4 rfl) (by omega) (by omega)
          refine va_sld hx hb hXs hbl hbA hS (z_in rfl (by omega) (by omega)) dL_law_398 ?_
          refine lq_top (v := s4) (by rw [hs4]; exact congrArg xs (by rw [z_nat (x := x_149) rfl]; omega)) ?_
          refine lv_aload_n hx hb dL_law_399 rfl (lv_at hl 0 rfl) ?_
          refine lv_iload hx hb dL_law_400 (lv_at hl 4 rfl) ?_
          refine lv_iconst (v := 5) hx hb dL_law_402 (by decide) ?_
          refine lv_iadd hx hb dL_law_403 ?_
          refine lv_topi (fun x_150 ex_150 => ?_)
          have hx_150 := z_add ex_150 rfl (zk (x := 5) 5 rfl) (by omega) (by omega)
          refine va_sld hx hb hXs hbl hbA hS (z_in rfl (by omega) (by omega)) dL_law_404 ?_
          refine lq_top (v := s5) (by rw [hs5]; exact congrArg xs (by rw [z_nat (x := x_150) rfl]; omega)) ?_
          refine lv_aload_n hx hb dL_law_405 rfl (lv_at hl 0 rfl) ?_
          refine lv_iload hx hb dL_law_406 (lv_at hl 4 rfl) ?_
          refine lv_bipush (v := 6) hx hb dL_law_408 (by decide) ?_
          refine lv_iadd hx hb dL_law_410 ?_
          refine lv_topi (fun x_151 ex_151 => ?_)
          have hx_151 := z_add ex_151 rfl (zk (x := 6) 6 rfl) (by omega) (by omega)
          refine va_sld hx hb hXs hbl hbA hS (z_in rfl (by omega) (by omega)) dL_law_411 ?_
          refine lq_top (v := s6) (by rw [hs6]; exact congrArg xs (by rw [z_nat (x := x_151) rfl]; omega)) ?_
          refine lv_aload_n hx hb dL_law_412 rfl (lv_at hl 0 rfl) ?_
          refine lv_iload hx hb dL_law_413 (lv_at hl 4 rfl) ?_
          refine lv_bipush (v := 7) hx hb dL_law_415 (by decide) ?_
          refine lv_iadd hx hb dL_law_417 ?_
          refine lv_topi (fun x_152 ex_152 => ?_)
          have hx_152 := z_add ex_152 rfl (zk (x := 7) 7 rfl) (by omega) (by omega)
          refine va_sld hx hb hXs hbl hbA hS (z_in rfl (by omega) (by omega)) dL_law_418 ?_
          refine lq_top (v := s7) (by rw [hs7]; exact congrArg xs (by rw [z_nat (x := x_152) rfl]; omega)) ?_
          refine lv_aload_n hx hb dL_law_419 rfl (lv_at hl 0 rfl) ?_
          refine lv_iload hx hb dL_law_420 (lv_at hl 4 rfl) ?_
          refine lv_bipush (v := 8) hx hb dL_law_422 (by decide) ?_
          refine lv_iadd hx hb dL_law_424 ?_
          refine lv_topi (fun x_153 ex_153 => ?_)
          have hx_153 := z_add ex_153 rfl (zk (x := 8) 8 rfl) (by omega) (by omega)
          refine va_sld hx hb hXs hbl hbA hS (z_in rfl (by omega) (by omega)) dL_law_425 ?_
          refine lq_top (v := s8) (by rw [hs8]; exact congrArg xs (by rw [z_nat (x := x_153) rfl]; omega)) ?_
          refine lv_aload_n hx hb dL_law_426 rfl (lv_at hl 0 rfl) ?_
          refine lv_iload hx hb dL_law_427 (lv_at hl 4 rfl) ?_
          refine lv_bipush (v := 9) hx hb dL_law_429 (by decide) ?_
          refine lv_iadd hx hb dL_law_431 ?_
          refine lv_topi (fun x_154 ex_154 => ?_)
          have hx_154 := z_add ex_154 rfl (zk (x := 9) 9 rfl) (by omega) (by omega)
          refine va_sld hx hb hXs hbl hbA hS (z_in rfl (by omega) (by omega)) dL_law_432 ?_
          refine lq_top (v := s9) (by rw [hs9]; exact congrArg xs (by rw [z_nat (x := x_154) rfl]; omega)) ?_
          have hFc := tw_free hF hS hA
          refine va_calli (va_runV (As := [.int s1, .int s2, .int s3, .int s4, .int s5, .int s6, .int s7, .int s8, .int s9]) (rest := []) ⟨hx, hb, hml, hown, hts⟩ (m_pieceN l dC dI ad av H.size a k tm_123 lm_123 ym_123 gm_123 v s1 s2 s3 s4 s5 s6 s7 s8 s9 hJ hW) (cwV 9 hts (gi_4 (im_law _ (List.mem_of_getElem? (i := 23) rfl)) (im_law _ (List.mem_of_getElem? (i := 24) rfl)) (im_law _ (List.mem_of_getElem? (i := 25) rfl)) (im_law _ (List.mem_of_getElem? (i := 7) rfl)) im_m_pieceN gd_m_pieceN) rfl rfl rfl (by decide +kernel) ⟨Nat.le_of_ble_eq_true rfl, Nat.le_of_ble_eq_true rfl⟩) ⟨pw_blind, tw_recv hK hT (fx_50 hX) (by decide) cl_e60 rfl, pw_use hT hK hFc hS hM⟩ rfl rfl hl.1 rfl (lv_room (Nat.le_of_ble_eq_true rfl)) dL_law_433 ⟨by show 200 + 4 * q + 1 + 0 ≤ 601024; omega, by show 60000 + 100 * q + 11 + 0 ≤ 7293034; omega⟩) hS (fun q _ h => hFc q h) hFc (fun r0 r_155 t H locs ht hvm hw hB hz1 hk1 hS => ?_)
          clear hvm hz1 hk1
          subst hw
          have hIo := hI
          rcases hB with ⟨um_156, ym_156, gm_156, hre, hum_156, hgm_156, hggm_156, hJ, hW, hf_157, hf_158, hT⟩ | ⟨um_159, ym_159, gm_159, hum_159, hgm_159, hggm_159, hJ, hW, hf_160, hf_161, hf_162, hT⟩
          · refine lq_top (v := (-1)) hre ?_
            rw [ht] at hT
            have hFo := hFo.m hIo hgm_156 (by decide) (hggm_156 (a 10) (by rw [fx_10 hX]; decide))
            have hI := hI.ag hgm_156 (by decide)
            have hI := hI.agg hggm_156
            have hTh : vb 38408 0 4800 (ym_156 (a 99)) := by rw [hgm_156.at (fx_99 hX) (by decide)]; exact hTh
            have : um_156 9 = v 9 := hum_156 9 (by decide)
            have : um_156 3 = v 3 := hum_156 3 (by decide)
            have : um_156 10 = v 10 := hum_156 10 (by decide)
            refine lv_pop hx hb dL_law_436 rfl ?_
            refine lv_goto (tgt := 1360) hx hb dL_law_437 (by decide) ?_
            obtain ⟨x_163, ex_163⟩ : ∃ y : Int32, y = i4 + Int32.ofInt 10 := ⟨_, rfl⟩
            have hx_163 := z_add ex_163 rfl (zk (x := Int32.ofInt 10) 10 rfl) (by omega) (by omega)
            refine lv_iinc (v := x_163) (lv' := [(4, .int x_163), (0, .ref b), (1, .ref (a 0)), (2, .ref (a 50)), (3, .ref (a 49))]) hx hb dL_law_1360 hl (k := 4) rfl ex_163.symm (by decide) rfl (fun ls hl => ?_)
            refine lv_goto (tgt := 23) hx hb dL_law_1363 (by decide) ?_
            refine W.widen (k := 200 + 4 * (q + 1)) (n := 60000 + 100 * (q + 1)) (by omega) (by omega) ?_
            exact ih (q + 1) x_163 tm_123 lm_123 ym_156 gm_156 um_123 um_156 H _ ls (by omega) hF hI hJ hW hTh hFo (by omega) (by omega) (by omega) (by omega) (by omega) hT hS (lv_sub hl [1, 2, 3, 4, 0] rfl)
          · rw [ht] at hT
            have hFo := hFo.m hIo hgm_159 (by decide) (hggm_159 (a 10) (by rw [fx_10 hX]; decide))
            have hI := hI.ag hgm_159 (by decide)
            have hI := hI.agg hggm_159
            have hTh : vb 38408 0 4800 (ym_159 (a 99)) := by rw [hgm_159.at (fx_99 hX) (by decide)]; exact hTh
            have : um_159 9 = v 9 := hum_159 9 (by decide)
            have : um_159 3 = v 3 := hum_159 3 (by decide)
            have : um_159 10 = v 10 := hum_159 10 (by decide)
            refine lv_pop hx hb dL_law_436 rfl ?_
            refine lv_goto (tgt := 1360) hx hb dL_law_437 (by decide) ?_
            obtain ⟨x_164, ex_164⟩ : ∃ y : Int32, y = i4 + Int32.ofInt 10 := ⟨_, rfl⟩
            have hx_164 := z_add ex_164 rfl (zk (x := Int32.ofInt 10) 10 rfl) (by omega) (by omega)
            refine lv_iinc (v := x_164) (lv' := [(4, .int x_164), (0, .ref b), (1, .ref (a 0)), (2, .ref (a 50)), (3, .ref (a 49))]) hx hb dL_law_1360 hl (k := 4) rfl ex_164.symm (by decide) rfl (fun ls hl => ?_)
            refine lv_goto (tgt := 23) hx hb dL_law_1363 (by decide) ?_
            refine W.widen (k := 200 + 4 * (q + 1)) (n := 60000 + 100 * (q + 1)) (by omega) (by omega) ?_
            exact ih (q + 1) x_164 tm_123 lm_123 ym_159 gm_159 um_123 um_159 H _ ls (by omega) hF hI hJ hW hTh hFo (by omega) (by omega) (by omega) (by omega) (by omega) hT hS (lv_sub hl [1, 2, 3, 4, 0] rfl)
      · refine lq_top (v := 4) t_5 ?_
        have nt_5 := z_eq rfl (zk (x := 4) 4 rfl) t_5
        refine lv_tableIn (tgt := 440) hx hb dL_law_40 (by decide) (by decide) (off := 400) (by decide) (by decide) ?_
        refine lv_aload_n hx hb dL_law_440 rfl (lv_at hl 1 rfl) ?_
        refine lv_aload_n hx hb dL_law_441 rfl (lv_at hl 0 rfl) ?_
        refine lv_iload hx hb dL_law_442 (lv_at hl 4 rfl) ?_
        refine lv_iconst (v := 1) hx hb dL_law_444 (by decide) ?_
        refine lv_iadd hx hb dL_law_445 ?_
        refine lv_topi (fun x_165 ex_165 => ?_)
        have hx_165 := z_add ex_165 rfl (zk (x := 1) 1 rfl) (by omega) (by omega)
        refine va_sld hx hb hXs hbl hbA hS (z_in rfl (by omega) (by omega)) dL_law_446 ?_
        refine lq_top (v := s1) (by rw [hs1]; exact congrArg xs (by rw [z_nat (x := x_165) rfl]; omega)) ?_
        have hFc := tw_free hF hS hA
        refine va_calli (va_runV (As := [.int s1]) (rest := []) ⟨hx, hb, hml, hown, hts⟩ (c_sign l dC dI ad av H.size a k τ ln y g u s1 hI ) (cwV 1 hts (gi_4 (im_law _ (List.mem_of_getElem? (i := 26) rfl)) (im_law _ (List.mem_of_getElem? (i := 27) rfl)) (im_law _ (List.mem_of_getElem? (i := 28) rfl)) (im_law _ (List.mem_of_getElem? (i := 3) rfl)) im_c_sign gd_c_sign) rfl rfl rfl (by decide +kernel) ⟨Nat.le_of_ble_eq_true rfl, Nat.le_of_ble_eq_true rfl⟩) ⟨pw_blind, tw_recv hK hT (fx_0 hX) (by decide) cl_e10 rfl, pw_use hT hK hFc hS hM⟩ rfl rfl hl.1 rfl (lv_room (Nat.le_of_ble_eq_true rfl)) dL_law_447 ⟨by show 200 + 4 * q + 0 ≤ 601024; omega, by show 60000 + 100 * q + 0 ≤ 7293034; omega⟩) hS (fun q _ h => hFc q h) hFc (fun r0 r_166 t H locs ht hvm hw hB hz1 hk1 hS => ?_)
        clear hvm hz1 hk1
        subst hw
        have hIo := hI
        obtain ⟨um_167, hum_167, ⟨tm_167, lm_167, ym_167, gm_167, hMo, hKM, hI, hT⟩⟩ := hB
        rw [ht] at hT
        have hF : ∀ q, tm_167 q ≠ 0 → s.heap.size ≤ q := fun q h => hFc q (hMo.2 q h)
        have hFo := hFo.kp hIo hKM (hum_167 1 (by decide)) (hum_167 2 (by decide)) (hum_167 9 (by decide))
        have hKM := hKM.to0
        have hJ := hJ.kp hKM hI.1
        have hW : IW (v 1) (v 2) (v 9) (ym_167 (a 89)) := by rw [hKM.fx hX (j := 89) (by decide) (by decide)]; exact hW
        have hTh : vb 38408 0 4800 (ym_167 (a 99)) := by rw [hKM.fx hX (j := 99) (by decide) (by decide)]; exact hTh
        have hX := hI.1
        have : um_167 2 = u 2 := hum_167 2 (by decide)
        have : um_167 9 = u 9 := hum_167 9 (by decide)
        refine lv_pop hx hb dL_law_450 rfl ?_
        refine lv_aload_n hx hb dL_law_451 rfl (lv_at hl 2 rfl) ?_
        refine lv_aload_n hx hb dL_law_452 rfl (lv_at hl 0 rfl) ?_
        refine lv_iload hx hb dL_law_453 (lv_at hl 4 rfl) ?_
        refine lv_iconst (v := 1) hx hb dL_law_455 (by decide) ?_
        refine lv_iadd hx hb dL_law_456 ?_
        refine lv_topi (fun x_168 ex_168 => ?_)
        have hx_168 := z_add ex_168 rfl (zk (x := 1) 1 rfl) (by omega) (by omega)
        refine va_sld hx hb hXs hbl hbA hS (z_in rfl (by omega) (by omega)) dL_law_457 ?_
        refine lq_top (v := s1) (by rw [hs1]; exact congrArg xs (by rw [z_nat (x := x_168) rfl]; omega)) ?_
        have hFc := tw_free hF hS hA
        refine va_calli (va_runV (As := [.int s1]) (rest := []) ⟨hx, hb, hml, hown, hts⟩ (m_sign l dC dI ad av H.size a k tm_167 lm_167 ym_167 gm_167 v s1 hJ hW) (cwV 1 hts (gi_4 (im_law _ (List.mem_of_getElem? (i := 29) rfl)) (im_law _ (List.mem_of_getElem? (i := 30) rfl)) (im_law _ (List.mem_of_getElem? (i := 31) rfl)) (im_law _ (List.mem_of_getElem? (i := 7) rfl)) im_m_sign gd_m_sign) rfl rfl rfl (by decide +kernel) ⟨Nat.le_of_ble_eq_true rfl, Nat.le_of_ble_eq_true rfl⟩) ⟨pw_blind, tw_recv hK hT (fx_50 hX) (by decide) cl_e60 rfl, pw_use hT hK hFc hS hM⟩ rfl rfl hl.1 rfl (lv_room (Nat.le_of_ble_eq_true rfl)) dL_law_458 ⟨by show 200 + 4 * q + 0 + 0 ≤ 601024; omega, by show 60000 + 100 * q + 0 + 0 ≤ 7293034; omega⟩) hS (fun q _ h => hFc q h) hFc (fun r0 r_169 t H locs ht hvm hw hB hz1 hk1 hS => ?_)
        clear hvm hz1 hk1
        subst hw
        have hIo := hI
        obtain ⟨um_170, ym_170, gm_170, hum_170, hgm_170, hggm_170, hJ, hT⟩ := hB
        rw [ht] at hT
        have hFo := hFo.m hIo hgm_170 (by decide) (hggm_170 (a 10) (by rw [fx_10 hX]; decide))
        have hI := hI.ag hgm_170 (by decide)
        have hI := hI.agg hggm_170
        have hW : IW (um_170 1) (um_170 2) (um_170 9) (ym_170 (a 89)) := by rw [hgm_170.at (fx_89 hX) (by decide)]; exact iw_u hW (hum_170 1 (by decide)) (hum_170 2 (by decide)) (hum_170 9 (by decide))
        have hTh : vb 38408 0 4800 (ym_170 (a 99)) := by rw [hgm_170.at (fx_99 hX) (by decide)]; exact hTh
        have : um_170 2 = v 2 := hum_170 2 (by decide)
        have : um_170 9 = v 9 := hum_170 9 (by decide)
        have : um_170 3 = v 3 := hum_170 3 (by decide)
        have : um_170 10 = v 10 := hum_170 10 (by decide)
        refine lv_pop hx hb dL_law_461 rfl ?_
        refine lv_goto (tgt := 1360) hx hb dL_law_462 (by decide) ?_
        obtain ⟨x_171, ex_171⟩ : ∃ y : Int32, y = i4 + Int32.ofInt 10 := ⟨_, rfl⟩
        have hx_171 := z_add ex_171 rfl (zk (x := Int32.ofInt 10) 10 rfl) (by omega) (by omega)
        refine lv_iinc (v := x_171) (lv' := [(4, .int x_171), (0, .ref b), (1, .ref (a 0)), (2, .ref (a 50)), (3, .ref (a 49))]) hx hb dL_law_1360 hl (k := 4) rfl ex_171.symm (by decide) rfl (fun ls hl => ?_)
        refine lv_goto (tgt := 23) hx hb dL_law_1363 (by decide) ?_
        refine W.widen (k := 200 + 4 * (q + 1)) (n := 60000 + 100 * (q + 1)) (by omega) (by omega) ?_
        exact ih (q + 1) x_171 tm_167 lm_167 ym_170 gm_170 um_167 um_170 H _ ls (by omega) hF hI hJ hW hTh hFo (by omega) (by omega) (by omega) (by omega) (by omega) hT hS (lv_sub hl [1, 2, 3, 4, 0] rfl)
      · refine lq_top (v := 5) t_5 ?_
        have nt_5 := z_eq rfl (zk (x := 5) 5 rfl) t_5
        refine lv_tableIn (tgt := 465) hx hb dL_law_40 (by decide) (by decide) (off := 425) (by decide) (by decide) ?_
        refine lv_aload_n hx hb dL_law_465 rfl (lv_at hl 1 rfl) ?_
        refine lv_aload_n hx hb dL_law_466 rfl (lv_at hl 0 rfl) ?_
        refine lv_iload hx hb dL_law_467 (lv_at hl 4 rfl) ?_
        refine lv_iconst (v := 1) hx hb dL_law_469 (by decide) ?_
        refine lv_iadd hx hb dL_law_470 ?_
        refine lv_topi (fun x_172 ex_172 => ?_)
        have hx_172 := z_add ex_172 rfl (zk (x := 1) 1 rfl) (by omega) (by omega)
        refine va_sld hx hb hXs hbl hbA hS (z_in rfl (by omega) (by omega)) dL_law_471 ?_
        refine lq_top (v := s1) (by rw [hs1]; exact congrArg xs (by rw [z_nat (x := x_172) rfl]; omega)) ?_
        have hFc := tw_free hF hS hA
        refine va_calli (va_runV (As := [.int s1]) (rest := []) ⟨hx, hb, hml, hown, hts⟩ (c_end l dC dI ad av H.size a k τ ln y g u s1 hI ) (cwV 1 hts (gi_4 (im_law _ (List.mem_of_getElem? (i := 32) rfl)) (im_law _ (List.mem_of_getElem? (i := 33) rfl)) (im_law _ (List.mem_of_getElem? (i := 34) rfl)) (im_law _ (List.mem_of_getElem? (i := 3) rfl)) im_c_end gd_c_end) rfl rfl rfl (by decide +kernel) ⟨Nat.le_of_ble_eq_true rfl, Nat.le_of_ble_eq_true rfl⟩) ⟨pw_blind, tw_recv hK hT (fx_0 hX) (by decide) cl_e10 rfl, pw_use hT hK hFc hS hM⟩ rfl rfl hl.1 rfl (lv_room (Nat.le_of_ble_eq_true rfl)) dL_law_472 ⟨by show 200 + 4 * q + 0 ≤ 601024; omega, by show 60000 + 100 * q + 0 ≤ 7293034; omega⟩) hS (fun q _ h => hFc q h) hFc (fun r0 r_173 t H locs ht hvm hw hB hz1 hk1 hS => ?_)
        clear hvm hz1 hk1
        subst hw
        have hIo := hI
        rcases hB with ⟨um_174, hre, hum_174, ⟨tm_174, lm_174, ym_174, gm_174, hMo, hKM, hI, hT⟩⟩ | ⟨um_175, hre, hum_175, ⟨tm_175, lm_175, ym_175, gm_175, hMo, hKM, hI, hT⟩⟩
        · refine lq_top (v := 1) hre ?_
          rw [ht] at hT
          have hF : ∀ q, tm_174 q ≠ 0 → s.heap.size ≤ q := fun q h => hFc q (hMo.2 q h)
          have hFo := hFo.kp hIo hKM (hum_174 1 (by decide)) (hum_174 2 (by decide)) (hum_174 9 (by decide))
          have hKM := hKM.to0
          have hJ := hJ.kp hKM hI.1
          have hW : IW (v 1) (v 2) (v 9) (ym_174 (a 89)) := by rw [hKM.fx hX (j := 89) (by decide) (by decide)]; exact hW
          have hTh : vb 38408 0 4800 (ym_174 (a 99)) := by rw [hKM.fx hX (j := 99) (by decide) (by decide)]; exact hTh
          have hX := hI.1
          have : um_174 2 = u 2 := hum_174 2 (by decide)
          have : um_174 9 = u 9 := hum_174 9 (by decide)
          refine lv_pop hx hb dL_law_475 rfl ?_
          refine lv_aload_n hx hb dL_law_476 rfl (lv_at hl 2 rfl) ?_
          refine lv_aload_n hx hb dL_law_477 rfl (lv_at hl 0 rfl) ?_
          refine lv_iload hx hb dL_law_478 (lv_at hl 4 rfl) ?_
          refine lv_iconst (v := 1) hx hb dL_law_480 (by decide) ?_
          refine lv_iadd hx hb dL_law_481 ?_
          refine lv_topi (fun x_176 ex_176 => ?_)
          have hx_176 := z_add ex_176 rfl (zk (x := 1) 1 rfl) (by omega) (by omega)
          refine va_sld hx hb hXs hbl hbA hS (z_in rfl (by omega) (by omega)) dL_law_482 ?_
          refine lq_top (v := s1) (by rw [hs1]; exact congrArg xs (by rw [z_nat (x := x_176) rfl]; omega)) ?_
          have hFc := tw_free hF hS hA
          refine va_calli (va_runV (As := [.int s1]) (rest := []) ⟨hx, hb, hml, hown, hts⟩ (m_end l dC dI ad av H.size a k tm_174 lm_174 ym_174 gm_174 v s1 hJ hW) (cwV 1 hts (gi_4 (im_law _ (List.mem_of_getElem? (i := 35) rfl)) (im_law _ (List.mem_of_getElem? (i := 36) rfl)) (im_law _ (List.mem_of_getElem? (i := 37) rfl)) (im_law _ (List.mem_of_getElem? (i := 7) rfl)) im_m_end gd_m_end) rfl rfl rfl (by decide +kernel) ⟨Nat.le_of_ble_eq_true rfl, Nat.le_of_ble_eq_true rfl⟩) ⟨pw_blind, tw_recv hK hT (fx_50 hX) (by decide) cl_e60 rfl, pw_use hT hK hFc hS hM⟩ rfl rfl hl.1 rfl (lv_room (Nat.le_of_ble_eq_true rfl)) dL_law_483 ⟨by show 200 + 4 * q + 0 + 0 ≤ 601024; omega, by show 60000 + 100 * q + 0 + 0 ≤ 7293034; omega⟩) hS (fun q _ h => hFc q h) hFc (fun r0 r_177 t H locs ht hvm hw hB hz1 hk1 hS => ?_)
          clear hvm hz1 hk1
          subst hw
          have hIo := hI
          rcases hB with ⟨um_178, ym_178, gm_178, hre, hum_178, hgm_178, hggm_178, hJ, hT⟩ | ⟨um_179, ym_179, gm_179, hre, hum_179, hgm_179, hggm_179, hJ, hT⟩
          · refine lq_top (v := 1) hre ?_
            rw [ht] at hT
            have hFo := hFo.m hIo hgm_178 (by decide) (hggm_178 (a 10) (by rw [fx_10 hX]; decide))
            have hI := hI.ag hgm_178 (by decide)
            have hI := hI.agg hggm_178
            have hW : IW (um_178 1) (um_178 2) (um_178 9) (ym_178 (a 89)) := by rw [hgm_178.at (fx_89 hX) (by decide)]; exact iw_u hW (hum_178 1 (by decide)) (hum_178 2 (by decide)) (hum_178 9 (by decide))
            have hTh : vb 38408 0 4800 (ym_178 (a 99)) := by rw [hgm_178.at (fx_99 hX) (by decide)]; exact hTh
            have : um_178 2 = v 2 := hum_178 2 (by decide)
            have : um_178 9 = v 9 := hum_178 9 (by decide)
            have : um_178 3 = v 3 := hum_178 3 (by decide)
            have : um_178 10 = v 10 := hum_178 10 (by decide)
            refine lv_pop hx hb dL_law_486 rfl ?_
            refine lv_goto (tgt := 1360) hx hb dL_law_487 (by decide) ?_
            obtain ⟨x_180, ex_180⟩ : ∃ y : Int32, y = i4 + Int32.ofInt 10 := ⟨_, rfl⟩
            have hx_180 := z_add ex_180 rfl (zk (x := Int32.ofInt 10) 10 rfl) (by omega) (by omega)
            refine lv_iinc (v := x_180) (lv' := [(4, .int x_180), (0, .ref b), (1, .ref (a 0)), (2, .ref (a 50)), (3, .ref (a 49))]) hx hb dL_law_1360 hl (k := 4) rfl ex_180.symm (by decide) rfl (fun ls hl => ?_)
            refine lv_goto (tgt := 23) hx hb dL_law_1363 (by decide) ?_
            refine W.widen (k := 200 + 4 * (q + 1)) (n := 60000 + 100 * (q + 1)) (by omega) (by omega) ?_
            exact ih (q + 1) x_180 tm_174 lm_174 ym_178 gm_178 um_174 um_178 H _ ls (by omega) hF hI hJ hW hTh hFo (by omega) (by omega) (by omega) (by omega) (by omega) hT hS (lv_sub hl [1, 2, 3, 4, 0] rfl)
          · refine lq_top (v := 0) hre ?_
            rw [ht] at hT
            have hFo := hFo.m hIo hgm_179 (by decide) (hggm_179 (a 10) (by rw [fx_10 hX]; decide))
            have hI := hI.ag hgm_179 (by decide)
            have hI := hI.agg hggm_179
            have hW : IW (um_179 1) (um_179 2) (um_179 9) (ym_179 (a 89)) := by rw [hgm_179.at (fx_89 hX) (by decide)]; exact iw_u hW (hum_179 1 (by decide)) (hum_179 2 (by decide)) (hum_179 9 (by decide))
            have hTh : vb 38408 0 4800 (ym_179 (a 99)) := by rw [hgm_179.at (fx_99 hX) (by decide)]; exact hTh
            have : um_179 2 = v 2 := hum_179 2 (by decide)
            have : um_179 9 = v 9 := hum_179 9 (by decide)
            have : um_179 3 = v 3 := hum_179 3 (by decide)
            have : um_179 10 = v 10 := hum_179 10 (by decide)
            refine lv_pop hx hb dL_law_486 rfl ?_
            refine lv_goto (tgt := 1360) hx hb dL_law_487 (by decide) ?_
            obtain ⟨x_181, ex_181⟩ : ∃ y : Int32, y = i4 + Int32.ofInt 10 := ⟨_, rfl⟩
            have hx_181 := z_add ex_181 rfl (zk (x := Int32.ofInt 10) 10 rfl) (by omega) (by omega)
            refine lv_iinc (v := x_181) (lv' := [(4, .int x_181), (0, .ref b), (1, .ref (a 0)), (2, .ref (a 50)), (3, .ref (a 49))]) hx hb dL_law_1360 hl (k := 4) rfl ex_181.symm (by decide) rfl (fun ls hl => ?_)
            refine lv_goto (tgt := 23) hx hb dL_law_1363 (by decide) ?_
            refine W.widen (k := 200 + 4 * (q + 1)) (n := 60000 + 100 * (q + 1)) (by omega) (by omega) ?_
            exact ih (q + 1) x_181 tm_174 lm_174 ym_179 gm_179 um_174 um_179 H _ ls (by omega) hF hI hJ hW hTh hFo (by omega) (by omega) (by omega) (by omega) (by omega) hT hS (lv_sub hl [1, 2, 3, 4, 0] rfl)
        · refine lq_top (v := 0) hre ?_
          rw [ht] at hT
          have hF : ∀ q, tm_175 q ≠ 0 → s.heap.size ≤ q := fun q h => hFc q (hMo.2 q h)
          have hFo := hFo.kp hIo hKM (hum_175 1 (by decide)) (hum_175 2 (by decide)) (hum_175 9 (by decide))
          have hKM := hKM.to0
          have hJ := hJ.kp hKM hI.1
          have hW : IW (v 1) (v 2) (v 9) (ym_175 (a 89)) := by rw [hKM.fx hX (j := 89) (by decide) (by decide)]; exact hW
          have hTh : vb 38408 0 4800 (ym_175 (a 99)) := by rw [hKM.fx hX (j := 99) (by decide) (by decide)]; exact hTh
          have hX := hI.1
          have : um_175 2 = u 2 := hum_175 2 (by decide)
          have : um_175 9 = u 9 := hum_175 9 (by decide)
          refine lv_pop hx hb dL_law_475 rfl ?_
          refine lv_aload_n hx hb dL_law_476 rfl (lv_at hl 2 rfl) ?_
          refine lv_aload_n hx hb dL_law_477 rfl (lv_at hl 0 rfl) ?_
          refine lv_iload hx hb dL_law_478 (lv_at hl 4 rfl) ?_
          refine lv_iconst (v := 1) hx hb dL_law_480 (by decide) ?_
          refine lv_iadd hx hb dL_law_481 ?_
          refine lv_topi (fun x_182 ex_182 => ?_)
          have hx_182 := z_add ex_182 rfl (zk (x := 1) 1 rfl) (by omega) (by omega)
          refine va_sld hx hb hXs hbl hbA hS (z_in rfl (by omega) (by omega)) dL_law_482 ?_
          refine lq_top (v := s1) (by rw [hs1]; exact congrArg xs (by rw [z_nat (x := x_182) rfl]; omega)) ?_
          have hFc := tw_free hF hS hA
          refine va_calli (va_runV (As := [.int s1]) (rest := []) ⟨hx, hb, hml, hown, hts⟩ (m_end l dC dI ad av H.size a k tm_175 lm_175 ym_175 gm_175 v s1 hJ hW) (cwV 1 hts (gi_4 (im_law _ (List.mem_of_getElem? (i := 35) rfl)) (im_law _ (List.mem_of_getElem? (i := 36) rfl)) (im_law _ (List.mem_of_getElem? (i := 37) rfl)) (im_law _ (List.mem_of_getElem? (i := 7) rfl)) im_m_end gd_m_end) rfl rfl rfl (by decide +kernel) ⟨Nat.le_of_ble_eq_true rfl, Nat.le_of_ble_eq_true rfl⟩) ⟨pw_blind, tw_recv hK hT (fx_50 hX) (by decide) cl_e60 rfl, pw_use hT hK hFc hS hM⟩ rfl rfl hl.1 rfl (lv_room (Nat.le_of_ble_eq_true rfl)) dL_law_483 ⟨by show 200 + 4 * q + 0 + 0 ≤ 601024; omega, by show 60000 + 100 * q + 0 + 0 ≤ 7293034; omega⟩) hS (fun q _ h => hFc q h) hFc (fun r0 r_183 t H locs ht hvm hw hB hz1 hk1 hS => ?_)
          clear hvm hz1 hk1
          subst hw
          have hIo := hI
          rcases hB with ⟨um_184, ym_184, gm_184, hre, hum_184, hgm_184, hggm_184, hJ, hT⟩ | ⟨um_185, ym_185, gm_185, hre, hum_185, hgm_185, hggm_185, hJ, hT⟩
          · refine lq_top (v := 1) hre ?_
            rw [ht] at hT
            have hFo := hFo.m hIo hgm_184 (by decide) (hggm_184 (a 10) (by rw [fx_10 hX]; decide))
            have hI := hI.ag hgm_184 (by decide)
            have hI := hI.agg hggm_184
            have hW : IW (um_184 1) (um_184 2) (um_184 9) (ym_184 (a 89)) := by rw [hgm_184.at (fx_89 hX) (by decide)]; exact iw_u hW (hum_184 1 (by decide)) (hum_184 2 (by decide)) (hum_184 9 (by decide))
            have hTh : vb 38408 0 4800 (ym_184 (a 99)) := by rw [hgm_184.at (fx_99 hX) (by decide)]; exact hTh
            have : um_184 2 = v 2 := hum_184 2 (by decide)
            have : um_184 9 = v 9 := hum_184 9 (by decide)
            have : um_184 3 = v 3 := hum_184 3 (by decide)
            have : um_184 10 = v 10 := hum_184 10 (by decide)
            refine lv_pop hx hb dL_law_486 rfl ?_
            refine lv_goto (tgt := 1360) hx hb dL_law_487 (by decide) ?_
            obtain ⟨x_186, ex_186⟩ : ∃ y : Int32, y = i4 + Int32.ofInt 10 := ⟨_, rfl⟩
            have hx_186 := z_add ex_186 rfl (zk (x := Int32.ofInt 10) 10 rfl) (by omega) (by omega)
            refine lv_iinc (v := x_186) (lv' := [(4, .int x_186), (0, .ref b), (1, .ref (a 0)), (2, .ref (a 50)), (3, .ref (a 49))]) hx hb dL_law_1360 hl (k := 4) rfl ex_186.symm (by decide) rfl (fun ls hl => ?_)
            refine lv_goto (tgt := 23) hx hb dL_law_1363 (by decide) ?_
            refine W.widen (k := 200 + 4 * (q + 1)) (n := 60000 + 100 * (q + 1)) (by omega) (by omega) ?_
            exact ih (q + 1) x_186 tm_175 lm_175 ym_184 gm_184 um_175 um_184 H _ ls (by omega) hF hI hJ hW hTh hFo (by omega) (by omega) (by omega) (by omega) (by omega) hT hS (lv_sub hl [1, 2, 3, 4, 0] rfl)
          · refine lq_top (v := 0) hre ?_
            rw [ht] at hT
            have hFo := hFo.m hIo hgm_185 (by decide) (hggm_185 (a 10) (by rw [fx_10 hX]; decide))
            have hI := hI.ag hgm_185 (by decide)
            have hI := hI.agg hggm_185
            have hW : IW (um_185 1) (um_185 2) (um_185 9) (ym_185 (a 89)) := by rw [hgm_185.at (fx_89 hX) (by decide)]; exact iw_u hW (hum_185 1 (by decide)) (hum_185 2 (by decide)) (hum_185 9 (by decide))
            have hTh : vb 38408 0 4800 (ym_185 (a 99)) := by rw [hgm_185.at (fx_99 hX) (by decide)]; exact hTh
            have : um_185 2 = v 2 := hum_185 2 (by decide)
            have : um_185 9 = v 9 := hum_185 9 (by decide)
            have : um_185 3 = v 3 := hum_185 3 (by decide)
            have : um_185 10 = v 10 := hum_185 10 (by decide)
            refine lv_pop hx hb dL_law_486 rfl ?_
            refine lv_goto (tgt := 1360) hx hb dL_law_487 (by decide) ?_
            obtain ⟨x_187, ex_187⟩ : ∃ y : Int32, y = i4 + Int32.ofInt 10 := ⟨_, rfl⟩
            have hx_187 := z_add ex_187 rfl (zk (x := Int32.ofInt 10) 10 rfl) (by omega) (by omega)
            refine lv_iinc (v := x_187) (lv' := [(4, .int x_187), (0, .ref b), (1, .ref (a 0)), (2, .ref (a 50)), (3, .ref (a 49))]) hx hb dL_law_1360 hl (k := 4) rfl ex_187.symm (by decide) rfl (fun ls hl => ?_)
            refine lv_goto (tgt := 23) hx hb dL_law_1363 (by decide) ?_
            refine W.widen (k := 200 + 4 * (q + 1)) (n := 60000 + 100 * (q + 1)) (by omega) (by omega) ?_
            exact ih (q + 1) x_187 tm_175 lm_175 ym_185 gm_185 um_175 um_185 H _ ls (by omega) hF hI hJ hW hTh hFo (by omega) (by omega) (by omega) (by omega) (by omega) hT hS (lv_sub hl [1, 2, 3, 4, 0] rfl)
      · refine lq_top (v := 6) t_5 ?_
        have nt_5 := z_eq rfl (zk (x := 6) 6 rfl) t_5
        refine lv_tableIn (tgt := 490) hx hb dL_law_40 (by decide) (by decide) (off := 450) (by decide) (by decide) ?_
        refine lv_aload_n hx hb dL_law_490 rfl (lv_at hl 1 rfl) ?_
        refine lv_aload_n hx hb dL_law_491 rfl (lv_at hl 0 rfl) ?_
        refine lv_iload hx hb dL_law_492 (lv_at hl 4 rfl) ?_
        refine lv_iconst (v := 1) hx hb dL_law_494 (by decide) ?_
        refine lv_iadd hx hb dL_law_495 ?_
        refine lv_topi (fun x_188 ex_188 => ?_)
        have hx_188 := z_add ex_188 rfl (zk (x := 1) 1 rfl) (by omega) (by omega)
        refine va_sld hx hb hXs hbl hbA hS (z_in rfl (by omega) (by omega)) dL_law_496 ?_
        refine lq_top (v := s1) (by rw [hs1]; exact congrArg xs (by rw [z_nat (x := x_188) rfl]; omega)) ?_
        refine lv_aload_n hx hb dL_law_497 rfl (lv_at hl 0 rfl) ?_
        refine lv_iload hx hb dL_law_498 (lv_at hl 4 rfl) ?_
        refine lv_iconst (v := 2) hx hb dL_law_500 (by decide) ?_
        refine lv_iadd hx hb dL_law_501 ?_
        refine lv_topi (fun x_189 ex_189 => ?_)
        have hx_189 := z_add ex_189 rfl (zk (x := 2) 2 rfl) (by omega) (by omega)
        refine va_sld hx hb hXs hbl hbA hS (z_in rfl (by omega) (by omega)) dL_law_502 ?_
        refine lq_top (v := s2) (by rw [hs2]; exact congrArg xs (by rw [z_nat (x := x_189) rfl]; omega)) ?_
        have hFc := tw_free hF hS hA
        refine va_calli (va_runV (As := [.int s1, .int s2]) (rest := []) ⟨hx, hb, hml, hown, hts⟩ (c_rule l dC dI ad av H.size a k τ ln y g u s1 s2 hI ) (cwV 2 hts (gi_4 (im_law _ (List.mem_of_getElem? (i := 38) rfl)) (im_law _ (List.mem_of_getElem? (i := 39) rfl)) (im_law _ (List.mem_of_getElem? (i := 40) rfl)) (im_law _ (List.mem_of_getElem? (i := 3) rfl)) im_c_rule gd_c_rule) rfl rfl rfl (by decide +kernel) ⟨Nat.le_of_ble_eq_true rfl, Nat.le_of_ble_eq_true rfl⟩) ⟨pw_blind, tw_recv hK hT (fx_0 hX) (by decide) cl_e10 rfl, pw_use hT hK hFc hS hM⟩ rfl rfl hl.1 rfl (lv_room (Nat.le_of_ble_eq_true rfl)) dL_law_503 ⟨by show 200 + 4 * q + 2 ≤ 601024; omega, by show 60000 + 100 * q + 63 ≤ 7293034; omega⟩) hS (fun q _ h => hFc q h) hFc (fun r0 r_190 t H locs ht hvm hw hB hz1 hk1 hS => ?_)
        clear hvm hz1 hk1
        subst hw
        have hIo := hI
        obtain ⟨um_191, hum_191, ⟨tm_191, lm_191, ym_191, gm_191, hMo, hKM, hI, hT⟩⟩ := hB
        rw [ht] at hT
        have hF : ∀ q, tm_191 q ≠ 0 → s.heap.size ≤ q := fun q h => hFc q (hMo.2 q h)
        have hFo := hFo.kp hIo hKM (hum_191 1 (by decide)) (hum_191 2 (by decide)) (hum_191 9 (by decide))
        have hKM := hKM.to0
        have hJ := hJ.kp hKM hI.1
        have hW : IW (v 1) (v 2) (v 9) (ym_191 (a 89)) := by rw [hKM.fx hX (j := 89) (by decide) (by decide)]; exact hW
        have hTh : vb 38408 0 4800 (ym_191 (a 99)) := by rw [hKM.fx hX (j := 99) (by decide) (by decide)]; exact hTh
        have hX := hI.1
        have : um_191 2 = u 2 := hum_191 2 (by decide)
        have : um_191 9 = u 9 := hum_191 9 (by decide)
        refine lv_pop hx hb dL_law_506 rfl ?_
        refine lv_aload_n hx hb dL_law_507 rfl (lv_at hl 2 rfl) ?_
        refine lv_aload_n hx hb dL_law_508 rfl (lv_at hl 0 rfl) ?_
        refine lv_iload hx hb dL_law_509 (lv_at hl 4 rfl) ?_
        refine lv_iconst (v := 1) hx hb dL_law_511 (by decide) ?_
        refine lv_iadd hx hb dL_law_512 ?_
        refine lv_topi (fun x_192 ex_192 => ?_)
        have hx_192 := z_add ex_192 rfl (zk (x := 1) 1 rfl) (by omega) (by omega)
        refine va_sld hx hb hXs hbl hbA hS (z_in rfl (by omega) (by omega)) dL_law_513 ?_
        refine lq_top (v := s1) (by rw [hs1]; exact congrArg xs (by rw [z_nat (x := x_192) rfl]; omega)) ?_
        refine lv_aload_n hx hb dL_law_514 rfl (lv_at hl 0 rfl) ?_
        refine lv_iload hx hb dL_law_515 (lv_at hl 4 rfl) ?_
        refine lv_iconst (v := 2) hx hb dL_law_517 (by decide) ?_
        refine lv_iadd hx hb dL_law_518 ?_
        refine lv_topi (fun x_193 ex_193 => ?_)
        have hx_193 := z_add ex_193 rfl (zk (x := 2) 2 rfl) (by omega) (by omega)
        refine va_sld hx hb hXs hbl hbA hS (z_in rfl (by omega) (by omega)) dL_law_519 ?_
        refine lq_top (v := s2) (by rw [hs2]; exact congrArg xs (by rw [z_nat (x := x_193) rfl]; omega)) ?_
        have hFc := tw_free hF hS hA
        refine va_calli (va_runV (As := [.int s1, .int s2]) (rest := []) ⟨hx, hb, hml, hown, hts⟩ (m_rule l dC dI ad av H.size a k tm_191 lm_191 ym_191 gm_191 v s1 s2 hJ hW) (cwV 2 hts (gi_4 (im_law _ (List.mem_of_getElem? (i := 41) rfl)) (im_law _ (List.mem_of_getElem? (i := 42) rfl)) (im_law _ (List.mem_of_getElem? (i := 43) rfl)) (im_law _ (List.mem_of_getElem? (i := 7) rfl)) im_m_rule gd_m_rule) rfl rfl rfl (by decide +kernel) ⟨Nat.le_of_ble_eq_true rfl, Nat.le_of_ble_eq_true rfl⟩) ⟨pw_blind, tw_recv hK hT (fx_50 hX) (by decide) cl_e60 rfl, pw_use hT hK hFc hS hM⟩ rfl rfl hl.1 rfl (lv_room (Nat.le_of_ble_eq_true rfl)) dL_law_520 ⟨by show 200 + 4 * q + 2 + 0 ≤ 601024; omega, by show 60000 + 100 * q + 63 + 0 ≤ 7293034; omega⟩) hS (fun q _ h => hFc q h) hFc (fun r0 r_194 t H locs ht hvm hw hB hz1 hk1 hS => ?_)
        clear hvm hz1 hk1
        subst hw
        have hIo := hI
        obtain ⟨um_195, ym_195, gm_195, hum_195, hgm_195, hggm_195, hJ, hT⟩ := hB
        rw [ht] at hT
        have hFo := hFo.m hIo hgm_195 (by decide) (hggm_195 (a 10) (by rw [fx_10 hX]; decide))
        have hI := hI.ag hgm_195 (by decide)
        have hI := hI.agg hggm_195
        have hW : IW (um_195 1) (um_195 2) (um_195 9) (ym_195 (a 89)) := by rw [hgm_195.at (fx_89 hX) (by decide)]; exact iw_u hW (hum_195 1 (by decide)) (hum_195 2 (by decide)) (hum_195 9 (by decide))
        have hTh : vb 38408 0 4800 (ym_195 (a 99)) := by rw [hgm_195.at (fx_99 hX) (by decide)]; exact hTh
        have : um_195 2 = v 2 := hum_195 2 (by decide)
        have : um_195 9 = v 9 := hum_195 9 (by decide)
        have : um_195 3 = v 3 := hum_195 3 (by decide)
        have : um_195 10 = v 10 := hum_195 10 (by decide)
        refine lv_pop hx hb dL_law_523 rfl ?_
        refine lv_goto (tgt := 1360) hx hb dL_law_524 (by decide) ?_
        obtain ⟨x_196, ex_196⟩ : ∃ y : Int32, y = i4 + Int32.ofInt 10 := ⟨_, rfl⟩
        have hx_196 := z_add ex_196 rfl (zk (x := Int32.ofInt 10) 10 rfl) (by omega) (by omega)
        refine lv_iinc (v := x_196) (lv' := [(4, .int x_196), (0, .ref b), (1, .ref (a 0)), (2, .ref (a 50)), (3, .ref (a 49))]) hx hb dL_law_1360 hl (k := 4) rfl ex_196.symm (by decide) rfl (fun ls hl => ?_)
        refine lv_goto (tgt := 23) hx hb dL_law_1363 (by decide) ?_
        refine W.widen (k := 200 + 4 * (q + 1)) (n := 60000 + 100 * (q + 1)) (by omega) (by omega) ?_
        exact ih (q + 1) x_196 tm_191 lm_191 ym_195 gm_195 um_191 um_195 H _ ls (by omega) hF hI hJ hW hTh hFo (by omega) (by omega) (by omega) (by omega) (by omega) hT hS (lv_sub hl [1, 2, 3, 4, 0] rfl)
      · refine lq_top (v := 7) t_5 ?_
        have nt_5 := z_eq rfl (zk (x := 7) 7 rfl) t_5
        refine lv_tableIn (tgt := 527) hx hb dL_law_40 (by decide) (by decide) (off := 487) (by decide) (by decide) ?_
        refine lv_aload_n hx hb dL_law_527 rfl (lv_at hl 1 rfl) ?_
        refine lv_aload_n hx hb dL_law_528 rfl (lv_at hl 0 rfl) ?_
        refine lv_iload hx hb dL_law_529 (lv_at hl 4 rfl) ?_
        refine lv_iconst (v := 1) hx hb dL_law_531 (by decide) ?_
        refine lv_iadd hx hb dL_law_532 ?_
        refine lv_topi (fun x_197 ex_197 => ?_)
        have hx_197 := z_add ex_197 rfl (zk (x := 1) 1 rfl) (by omega) (by omega)
        refine va_sld hx hb hXs hbl hbA hS (z_in rfl (by omega) (by omega)) dL_law_533 ?_
        refine lq_top (v := s1) (by rw [hs1]; exact congrArg xs (by rw [z_nat (x := x_197) rfl]; omega)) ?_
        have hFc := tw_free hF hS hA
        refine va_calli (va_runV (As := [.int s1]) (rest := []) ⟨hx, hb, hml, hown, hts⟩ (c_stepF l dC dI ad av H.size a k τ ln y g u s1 hI hFo) (cwV 1 hts (gi_4 (im_law _ (List.mem_of_getElem? (i := 44) rfl)) (im_law _ (List.mem_of_getElem? (i := 45) rfl)) (im_law _ (List.mem_of_getElem? (i := 46) rfl)) (im_law _ (List.mem_of_getElem? (i := 3) rfl)) im_c_stepF gd_c_stepF) rfl rfl rfl (by decide +kernel) ⟨Nat.le_of_ble_eq_true rfl, Nat.le_of_ble_eq_true rfl⟩) ⟨pw_blind, tw_recv hK hT (fx_0 hX) (by decide) cl_e10 rfl, pw_use hT hK hFc hS hM⟩ rfl rfl hl.1 rfl (lv_room (Nat.le_of_ble_eq_true rfl)) dL_law_534 ⟨by show 200 + 4 * q + 0 ≤ 601024; omega, by show 60000 + 100 * q + 0 ≤ 7293034; omega⟩) hS (fun q _ h => hFc q h) hFc (fun r0 r_198 t H locs ht hvm hw hB hz1 hk1 hS => ?_)
        clear hvm hz1 hk1
        subst hw
        have hIo := hI
        rcases hB with ⟨um_199, hre, hum_199, hf_200, ⟨tm_199, lm_199, ym_199, gm_199, hMo, hKM, hI, hFo, hT⟩⟩ | ⟨um_201, hum_201, hf_202, hf_203, hf_204, ⟨tm_201, lm_201, ym_201, gm_201, hMo, hKM, hI, hFo, hT⟩⟩
        · refine lq_top (v := (-1)) hre ?_
          rw [ht] at hT
          have hF : ∀ q, tm_199 q ≠ 0 → s.heap.size ≤ q := fun q h => hFc q (hMo.2 q h)
          have hJ := hJ.kp hKM hI.1
          have hW : IW (v 1) (v 2) (v 9) (ym_199 (a 89)) := by rw [hKM.fx hX (j := 89) (by decide) (by decide)]; exact hW
          have hTh : vb 38408 0 4800 (ym_199 (a 99)) := by rw [hKM.fx hX (j := 99) (by decide) (by decide)]; exact hTh
          have hX := hI.1
          have : um_199 2 = u 2 := hum_199 2 (by decide)
          have : um_199 9 = u 9 := hum_199 9 (by decide)
          refine lv_pop hx hb dL_law_537 rfl ?_
          refine lv_aload_n hx hb dL_law_538 rfl (lv_at hl 2 rfl) ?_
          refine lv_aload_n hx hb dL_law_539 rfl (lv_at hl 0 rfl) ?_
          refine lv_iload hx hb dL_law_540 (lv_at hl 4 rfl) ?_
          refine lv_iconst (v := 1) hx hb dL_law_542 (by decide) ?_
          refine lv_iadd hx hb dL_law_543 ?_
          refine lv_topi (fun x_205 ex_205 => ?_)
          have hx_205 := z_add ex_205 rfl (zk (x := 1) 1 rfl) (by omega) (by omega)
          refine va_sld hx hb hXs hbl hbA hS (z_in rfl (by omega) (by omega)) dL_law_544 ?_
          refine lq_top (v := s1) (by rw [hs1]; exact congrArg xs (by rw [z_nat (x := x_205) rfl]; omega)) ?_
          have hFc := tw_free hF hS hA
          refine va_calli (va_runV (As := [.int s1]) (rest := []) ⟨hx, hb, hml, hown, hts⟩ (m_step l dC dI ad av H.size a k tm_199 lm_199 ym_199 gm_199 v s1 hJ hW) (cwV 1 hts (gi_4 (im_law _ (List.mem_of_getElem? (i := 47) rfl)) (im_law _ (List.mem_of_getElem? (i := 48) rfl)) (im_law _ (List.mem_of_getElem? (i := 49) rfl)) (im_law _ (List.mem_of_getElem? (i := 7) rfl)) im_m_step gd_m_step) rfl rfl rfl (by decide +kernel) ⟨Nat.le_of_ble_eq_true rfl, Nat.le_of_ble_eq_true rfl⟩) ⟨pw_blind, tw_recv hK hT (fx_50 hX) (by decide) cl_e60 rfl, pw_use hT hK hFc hS hM⟩ rfl rfl hl.1 rfl (lv_room (Nat.le_of_ble_eq_true rfl)) dL_law_545 ⟨by show 200 + 4 * q + 0 + 0 ≤ 601024; omega, by show 60000 + 100 * q + 0 + 0 ≤ 7293034; omega⟩) hS (fun q _ h => hFc q h) hFc (fun r0 r_206 t H locs ht hvm hw hB hz1 hk1 hS => ?_)
          clear hvm hz1 hk1
          subst hw
          have hIo := hI
          rcases hB with ⟨um_207, ym_207, gm_207, hre, hum_207, hgm_207, hggm_207, hJ, hW, hf_208, hf_209, hT⟩ | ⟨um_210, ym_210, gm_210, hum_210, hgm_210, hggm_210, hJ, hW, hf_211, hf_212, hf_213, hT⟩
          · refine lq_top (v := (-1)) hre ?_
            rw [ht] at hT
            have hFo := hFo.m hIo hgm_207 (by decide) (hggm_207 (a 10) (by rw [fx_10 hX]; decide))
            have hI := hI.ag hgm_207 (by decide)
            have hI := hI.agg hggm_207
            have hTh : vb 38408 0 4800 (ym_207 (a 99)) := by rw [hgm_207.at (fx_99 hX) (by decide)]; exact hTh
            have : um_207 2 = v 2 := hum_207 2 (by decide)
            have : um_207 3 = v 3 := hum_207 3 (by decide)
            have : um_207 10 = v 10 := hum_207 10 (by decide)
            refine lv_pop hx hb dL_law_548 rfl ?_
            refine lv_goto (tgt := 1360) hx hb dL_law_549 (by decide) ?_
            obtain ⟨x_214, ex_214⟩ : ∃ y : Int32, y = i4 + Int32.ofInt 10 := ⟨_, rfl⟩
            have hx_214 := z_add ex_214 rfl (zk (x := Int32.ofInt 10) 10 rfl) (by omega) (by omega)
            refine lv_iinc (v := x_214) (lv' := [(4, .int x_214), (0, .ref b), (1, .ref (a 0)), (2, .ref (a 50)), (3, .ref (a 49))]) hx hb dL_law_1360 hl (k := 4) rfl ex_214.symm (by decide) rfl (fun ls hl => ?_)
            refine lv_goto (tgt := 23) hx hb dL_law_1363 (by decide) ?_
            refine W.widen (k := 200 + 4 * (q + 1)) (n := 60000 + 100 * (q + 1)) (by omega) (by omega) ?_
            exact ih (q + 1) x_214 tm_199 lm_199 ym_207 gm_207 um_199 um_207 H _ ls (by omega) hF hI hJ hW hTh hFo (by omega) (by omega) (by omega) (by omega) (by omega) hT hS (lv_sub hl [1, 2, 3, 4, 0] rfl)
          · rw [ht] at hT
            have hFo := hFo.m hIo hgm_210 (by decide) (hggm_210 (a 10) (by rw [fx_10 hX]; decide))
            have hI := hI.ag hgm_210 (by decide)
            have hI := hI.agg hggm_210
            have hTh : vb 38408 0 4800 (ym_210 (a 99)) := by rw [hgm_210.at (fx_99 hX) (by decide)]; exact hTh
            have : um_210 2 = v 2 := hum_210 2 (by decide)
            have : um_210 3 = v 3 := hum_210 3 (by decide)
            have : um_210 10 = v 10 := hum_210 10 (by decide)
            refine lv_pop hx hb dL_law_548 rfl ?_
            refine lv_goto (tgt := 1360) hx hb dL_law_549 (by decide) ?_
            obtain ⟨x_215, ex_215⟩ : ∃ y : Int32, y = i4 + Int32.ofInt 10 := ⟨_, rfl⟩
            have hx_215 := z_add ex_215 rfl (zk (x := Int32.ofInt 10) 10 rfl) (by omega) (by omega)
            refine lv_iinc (v := x_215) (lv' := [(4, .int x_215), (0, .ref b), (1, .ref (a 0)), (2, .ref (a 50)), (3, .ref (a 49))]) hx hb dL_law_1360 hl (k := 4) rfl ex_215.symm (by decide) rfl (fun ls hl => ?_)
            refine lv_goto (tgt := 23) hx hb dL_law_1363 (by decide) ?_
            refine W.widen (k := 200 + 4 * (q + 1)) (n := 60000 + 100 * (q + 1)) (by omega) (by omega) ?_
            exact ih (q + 1) x_215 tm_199 lm_199 ym_210 gm_210 um_199 um_210 H _ ls (by omega) hF hI hJ hW hTh hFo (by omega) (by omega) (by omega) (by omega) (by omega) hT hS (lv_sub hl [1, 2, 3, 4, 0] rfl)
        · rw [ht] at hT
          have hF : ∀ q, tm_201 q ≠ 0 → s.heap.size ≤ q := fun q h => hFc q (hMo.2 q h)
          have hJ := hJ.kp hKM hI.1
          have hW : IW (v 1) (v 2) (v 9) (ym_201 (a 89)) := by rw [hKM.fx hX (j := 89) (by decide) (by decide)]; exact hW
          have hTh : vb 38408 0 4800 (ym_201 (a 99)) := by rw [hKM.fx hX (j := 99) (by decide) (by decide)]; exact hTh
          have hX := hI.1
          have : um_201 2 = u 2 := hum_201 2 (by decide)
          refine lv_pop hx hb dL_law_537 rfl ?_
          refine lv_aload_n hx hb dL_law_538 rfl (lv_at hl 2 rfl) ?_
          refine lv_aload_n hx hb dL_law_539 rfl (lv_at hl 0 rfl) ?_
          refine lv_iload hx hb dL_law_540 (lv_at hl 4 rfl) ?_
          refine lv_iconst (v := 1) hx hb dL_law_542 (by decide) ?_
          refine lv_iadd hx hb dL_law_543 ?_
          refine lv_topi (fun x_216 ex_216 => ?_)
          have hx_216 := z_add ex_216 rfl (zk (x := 1) 1 rfl) (by omega) (by omega)
          refine va_sld hx hb hXs hbl hbA hS (z_in rfl (by omega) (by omega)) dL_law_544 ?_
          refine lq_top (v := s1) (by rw [hs1]; exact congrArg xs (by rw [z_nat (x := x_216) rfl]; omega)) ?_
          have hFc := tw_free hF hS hA
          refine va_calli (va_runV (As := [.int s1]) (rest := []) ⟨hx, hb, hml, hown, hts⟩ (m_step l dC dI ad av H.size a k tm_201 lm_201 ym_201 gm_201 v s1 hJ hW) (cwV 1 hts (gi_4 (im_law _ (List.mem_of_getElem? (i := 47) rfl)) (im_law _ (List.mem_of_getElem? (i := 48) rfl)) (im_law _ (List.mem_of_getElem? (i := 49) rfl)) (im_law _ (List.mem_of_getElem? (i := 7) rfl)) im_m_step gd_m_step) rfl rfl rfl (by decide +kernel) ⟨Nat.le_of_ble_eq_true rfl, Nat.le_of_ble_eq_true rfl⟩) ⟨pw_blind, tw_recv hK hT (fx_50 hX) (by decide) cl_e60 rfl, pw_use hT hK hFc hS hM⟩ rfl rfl hl.1 rfl (lv_room (Nat.le_of_ble_eq_true rfl)) dL_law_545 ⟨by show 200 + 4 * q + 0 + 0 ≤ 601024; omega, by show 60000 + 100 * q + 0 + 0 ≤ 7293034; omega⟩) hS (fun q _ h => hFc q h) hFc (fun r0 r_217 t H locs ht hvm hw hB hz1 hk1 hS => ?_)
          clear hvm hz1 hk1
          subst hw
          have hIo := hI
          rcases hB with ⟨um_218, ym_218, gm_218, hre, hum_218, hgm_218, hggm_218, hJ, hW, hf_219, hf_220, hT⟩ | ⟨um_221, ym_221, gm_221, hum_221, hgm_221, hggm_221, hJ, hW, hf_222, hf_223, hf_224, hT⟩
          · refine lq_top (v := (-1)) hre ?_
            rw [ht] at hT
            have hFo := hFo.m hIo hgm_218 (by decide) (hggm_218 (a 10) (by rw [fx_10 hX]; decide))
            have hI := hI.ag hgm_218 (by decide)
            have hI := hI.agg hggm_218
            have hTh : vb 38408 0 4800 (ym_218 (a 99)) := by rw [hgm_218.at (fx_99 hX) (by decide)]; exact hTh
            have : um_218 2 = v 2 := hum_218 2 (by decide)
            have : um_218 3 = v 3 := hum_218 3 (by decide)
            have : um_218 10 = v 10 := hum_218 10 (by decide)
            refine lv_pop hx hb dL_law_548 rfl ?_
            refine lv_goto (tgt := 1360) hx hb dL_law_549 (by decide) ?_
            obtain ⟨x_225, ex_225⟩ : ∃ y : Int32, y = i4 + Int32.ofInt 10 := ⟨_, rfl⟩
            have hx_225 := z_add ex_225 rfl (zk (x := Int32.ofInt 10) 10 rfl) (by omega) (by omega)
            refine lv_iinc (v := x_225) (lv' := [(4, .int x_225), (0, .ref b), (1, .ref (a 0)), (2, .ref (a 50)), (3, .ref (a 49))]) hx hb dL_law_1360 hl (k := 4) rfl ex_225.symm (by decide) rfl (fun ls hl => ?_)
            refine lv_goto (tgt := 23) hx hb dL_law_1363 (by decide) ?_
            refine W.widen (k := 200 + 4 * (q + 1)) (n := 60000 + 100 * (q + 1)) (by omega) (by omega) ?_
            exact ih (q + 1) x_225 tm_201 lm_201 ym_218 gm_218 um_201 um_218 H _ ls (by omega) hF hI hJ hW hTh hFo (by omega) (by omega) (by omega) (by omega) (by omega) hT hS (lv_sub hl [1, 2, 3, 4, 0] rfl)
          · rw [ht] at hT
            have hFo := hFo.m hIo hgm_221 (by decide) (hggm_221 (a 10) (by rw [fx_10 hX]; decide))
            have hI := hI.ag hgm_221 (by decide)
            have hI := hI.agg hggm_221
            have hTh : vb 38408 0 4800 (ym_221 (a 99)) := by rw [hgm_221.at (fx_99 hX) (by decide)]; exact hTh
            have : um_221 2 = v 2 := hum_221 2 (by decide)
            have : um_221 3 = v 3 := hum_221 3 (by decide)
            have : um_221 10 = v 10 := hum_221 10 (by decide)
            refine lv_pop hx hb dL_law_548 rfl ?_
            refine lv_goto (tgt := 1360) hx hb dL_law_549 (by decide) ?_
            obtain ⟨x_226, ex_226⟩ : ∃ y : Int32, y = i4 + Int32.ofInt 10 := ⟨_, rfl⟩
            have hx_226 := z_add ex_226 rfl (zk (x := Int32.ofInt 10) 10 rfl) (by omega) (by omega)
            refine lv_iinc (v := x_226) (lv' := [(4, .int x_226), (0, .ref b), (1, .ref (a 0)), (2, .ref (a 50)), (3, .ref (a 49))]) hx hb dL_law_1360 hl (k := 4) rfl ex_226.symm (by decide) rfl (fun ls hl => ?_)
            refine lv_goto (tgt := 23) hx hb dL_law_1363 (by decide) ?_
            refine W.widen (k := 200 + 4 * (q + 1)) (n := 60000 + 100 * (q + 1)) (by omega) (by omega) ?_
            exact ih (q + 1) x_226 tm_201 lm_201 ym_221 gm_221 um_201 um_221 H _ ls (by omega) hF hI hJ hW hTh hFo (by omega) (by omega) (by omega) (by omega) (by omega) hT hS (lv_sub hl [1, 2, 3, 4, 0] rfl)
      · refine lq_top (v := 8) t_5 ?_
        have nt_5 := z_eq rfl (zk (x := 8) 8 rfl) t_5
        refine lv_tableIn (tgt := 552) hx hb dL_law_40 (by decide) (by decide) (off := 512) (by decide) (by decide) ?_
        refine lv_aload_n hx hb dL_law_552 rfl (lv_at hl 1 rfl) ?_
        refine lv_aload_n hx hb dL_law_553 rfl (lv_at hl 0 rfl) ?_
        refine lv_iload hx hb dL_law_554 (lv_at hl 4 rfl) ?_
        refine lv_iconst (v := 1) hx hb dL_law_556 (by decide) ?_
        refine lv_iadd hx hb dL_law_557 ?_
        refine lv_topi (fun x_227 ex_227 => ?_)
        have hx_227 := z_add ex_227 rfl (zk (x := 1) 1 rfl) (by omega) (by omega)
        refine va_sld hx hb hXs hbl hbA hS (z_in rfl (by omega) (by omega)) dL_law_558 ?_
        refine lq_top (v := s1) (by rw [hs1]; exact congrArg xs (by rw [z_nat (x := x_227) rfl]; omega)) ?_
        refine lv_aload_n hx hb dL_law_559 rfl (lv_at hl 0 rfl) ?_
        refine lv_iload hx hb dL_law_560 (lv_at hl 4 rfl) ?_
        refine lv_iconst (v := 2) hx hb dL_law_562 (by decide) ?_
        refine lv_iadd hx hb dL_law_563 ?_
        refine lv_topi (fun x_228 ex_228 => ?_)
        have hx_228 := z_add ex_228 rfl (zk (x := 2) 2 rfl) (by omega) (by omega)
        refine va_sld hx hb hXs hbl hbA hS (z_in rfl (by omega) (by omega)) dL_law_564 ?_
        refine lq_top (v := s2) (by rw [hs2]; exact congrArg xs (by rw [z_nat (x := x_228) rfl]; omega)) ?_
        refine lv_aload_n hx hb dL_law_565 rfl (lv_at hl 3 rfl) ?_
        have hFc := tw_free hF hS hA
        refine va_calli (vx_runSW (As := [.ref (a 0), .int s1, .int s2, .ref (a 49)]) (rest := []) ⟨hx, hb, hml, hown, hts⟩ (k_of l hst dC dI ad av H.size a k τ ln y g u s1 s2 hI ) (vx_cwSW 4 hts (gi_3 (im_law _ (List.mem_of_getElem? (i := 50) rfl)) (im_law _ (List.mem_of_getElem? (i := 51) rfl)) (im_law _ (List.mem_of_getElem? (i := 52) rfl)) im_k_of gd_k_of) rfl rfl rfl (by decide +kernel) ⟨Nat.le_of_ble_eq_true rfl, Nat.le_of_ble_eq_true rfl⟩) ⟨pw_blind, pw_use hT hK hFc hS hM⟩ rfl rfl hl.1 rfl (lv_room (Nat.le_of_ble_eq_true rfl)) dL_law_566 ⟨by show 200 + 4 * q + 1 ≤ 601024; omega, by show 60000 + 100 * q + 6 ≤ 7293034; omega⟩) hS (fun q _ h => hFc q h) hFc (fun r0 r_229 t H locs ht hvm hw hB hz1 hk1 hS => ?_)
        clear hvm hz1 hk1
        subst hw
        have hIo := hI
        obtain ⟨um_230, hum_230, ⟨tm_230, lm_230, ym_230, gm_230, hMo, hKM, hI, hT⟩⟩ := hB
        rw [ht] at hT
        have hF : ∀ q, tm_230 q ≠ 0 → s.heap.size ≤ q := fun q h => hFc q (hMo.2 q h)
        have hFo := hFo.kp hIo hKM (hum_230 1 (by decide)) (hum_230 2 (by decide)) (hum_230 9 (by decide))
        have hKM := hKM.to0
        have hJ := hJ.kp hKM hI.1
        have hW : IW (v 1) (v 2) (v 9) (ym_230 (a 89)) := by rw [hKM.fx hX (j := 89) (by decide) (by decide)]; exact hW
        have hTh : vb 38408 0 4800 (ym_230 (a 99)) := by rw [hKM.fx hX (j := 99) (by decide) (by decide)]; exact hTh
        have hX := hI.1
        have : um_230 2 = u 2 := hum_230 2 (by decide)
        have : um_230 9 = u 9 := hum_230 9 (by decide)
        refine lv_istore (lv' := [(5, .int r_229), (0, .ref b), (1, .ref (a 0)), (2, .ref (a 50)), (3, .ref (a 49)), (4, .int i4)]) hx hb dL_law_569 hl (by decide) rfl (fun ls hl => ?_)
        refine lv_aload_n hx hb dL_law_571 rfl (lv_at hl 3 rfl) ?_
        refine lv_aload_n hx hb dL_law_572 rfl (lv_at hl 1 rfl) ?_
        refine lv_iload hx hb dL_law_573 (lv_at hl 5 rfl) ?_
        refine lv_iconst (v := 1) hx hb dL_law_575 (by decide) ?_
        refine lv_iadd hx hb dL_law_576 ?_
        refine lv_topi (fun x_231 ex_231 => ?_)
        have hx_231 := z_add ex_231 rfl (zk (x := 1) 1 rfl) (by omega) (by omega)
        refine va_sld hx hb hXs hbl hbA hS (z_in rfl (by omega) (by omega)) dL_law_577 ?_
        refine lq_top (v := s1) (by rw [hs1]; exact congrArg xs (by rw [z_nat (x := x_231) rfl]; omega)) ?_
        refine lv_aload_n hx hb dL_law_578 rfl (lv_at hl 1 rfl) ?_
        refine lv_iload hx hb dL_law_579 (lv_at hl 5 rfl) ?_
        refine lv_iconst (v := 2) hx hb dL_law_581 (by decide) ?_
        refine lv_iadd hx hb dL_law_582 ?_
        refine lv_topi (fun x_232 ex_232 => ?_)
        have hx_232 := z_add ex_232 rfl (zk (x := 2) 2 rfl) (by omega) (by omega)
        refine va_sld hx hb hXs hbl hbA hS (z_in rfl (by omega) (by omega)) dL_law_583 ?_
        refine lq_top (v := s2) (by rw [hs2]; exact congrArg xs (by rw [z_nat (x := x_232) rfl]; omega)) ?_
        have hFc := tw_free hF hS hA
        refine va_calli (va_runV (As := [.int s1, .int s2]) (rest := []) ⟨hx, hb, hml, hown, hts⟩ (m_of l dC dI ad av H.size a k tm_230 lm_230 ym_230 gm_230 v s1 s2 hJ hW) (cwV 2 hts (gi_4 (im_law _ (List.mem_of_getElem? (i := 53) rfl)) (im_law _ (List.mem_of_getElem? (i := 54) rfl)) (im_law _ (List.mem_of_getElem? (i := 55) rfl)) (im_law _ (List.mem_of_getElem? (i := 7) rfl)) im_m_of gd_m_of) rfl rfl rfl (by decide +kernel) ⟨Nat.le_of_ble_eq_true rfl, Nat.le_of_ble_eq_true rfl⟩) ⟨pw_blind, tw_recv hK hT (fx_50 hX) (by decide) cl_e60 rfl, pw_use hT hK hFc hS hM⟩ rfl rfl hl.1 rfl (lv_room (Nat.le_of_ble_eq_true rfl)) dL_law_584 ⟨by show 200 + 4 * q + 1 + 0 ≤ 601024; omega, by show 60000 + 100 * q + 6 + 0 ≤ 7293034; omega⟩) hS (fun q _ h => hFc q h) hFc (fun r0 r_233 t H locs ht hvm hw hB hz1 hk1 hS => ?_)
        clear hvm hz1 hk1
        subst hw
        have hIo := hI
        obtain ⟨ym_234, gm_234, hgm_234, hggm_234, hJ, hT⟩ := hB
        rw [ht] at hT
        have hFo := hFo.m hIo hgm_234 (by decide) (hggm_234 (a 10) (by rw [fx_10 hX]; decide))
        have hI := hI.ag hgm_234 (by decide)
        have hI := hI.agg hggm_234
        have hW : IW (v 1) (v 2) (v 9) (ym_234 (a 89)) := by rw [hgm_234.at (fx_89 hX) (by decide)]; exact hW
        have hTh : vb 38408 0 4800 (ym_234 (a 99)) := by rw [hgm_234.at (fx_99 hX) (by decide)]; exact hTh
        refine lv_istore (lv' := [(6, .int r_233), (5, .int r_229), (0, .ref b), (1, .ref (a 0)), (2, .ref (a 50)), (3, .ref (a 49)), (4, .int i4)]) hx hb dL_law_587 hl (by decide) rfl (fun ls hl => ?_)
        refine lv_goto (tgt := 1360) hx hb dL_law_589 (by decide) ?_
        obtain ⟨x_235, ex_235⟩ : ∃ y : Int32, y = i4 + Int32.ofInt 10 := ⟨_, rfl⟩
        have hx_235 := z_add ex_235 rfl (zk (x := Int32.ofInt 10) 10 rfl) (by omega) (by omega)
        refine lv_iinc (v := x_235) (lv' := [(4, .int x_235), (6, .int r_233), (5, .int r_229), (0, .ref b), (1, .ref (a 0)), (2, .ref (a 50)), (3, .ref (a 49))]) hx hb dL_law_1360 hl (k := 6) rfl ex_235.symm (by decide) rfl (fun ls hl => ?_)
        refine lv_goto (tgt := 23) hx hb dL_law_1363 (by decide) ?_
        refine W.widen (k := 200 + 4 * (q + 1)) (n := 60000 + 100 * (q + 1)) (by omega) (by omega) ?_
        exact ih (q + 1) x_235 tm_230 lm_230 ym_234 gm_234 um_230 v H _ ls (by omega) hF hI hJ hW hTh hFo (by omega) (by omega) (by omega) (by omega) (by omega) hT hS (lv_sub hl [3, 4, 5, 6, 0] rfl)
      · refine lq_top (v := 9) t_5 ?_
        have nt_5 := z_eq rfl (zk (x := 9) 9 rfl) t_5
        refine lv_tableIn (tgt := 592) hx hb dL_law_40 (by decide) (by decide) (off := 552) (by decide) (by decide) ?_
        refine lv_aload_n hx hb dL_law_592 rfl (lv_at hl 1 rfl) ?_
        refine lv_aload_n hx hb dL_law_593 rfl (lv_at hl 0 rfl) ?_
        refine lv_iload hx hb dL_law_594 (lv_at hl 4 rfl) ?_
        refine lv_iconst (v := 1) hx hb dL_law_596 (by decide) ?_
        refine lv_iadd hx hb dL_law_597 ?_
        refine lv_topi (fun x_236 ex_236 => ?_)
        have hx_236 := z_add ex_236 rfl (zk (x := 1) 1 rfl) (by omega) (by omega)
        refine va_sld hx hb hXs hbl hbA hS (z_in rfl (by omega) (by omega)) dL_law_598 ?_
        refine lq_top (v := s1) (by rw [hs1]; exact congrArg xs (by rw [z_nat (x := x_236) rfl]; omega)) ?_
        refine lv_aload_n hx hb dL_law_599 rfl (lv_at hl 0 rfl) ?_
        refine lv_iload hx hb dL_law_600 (lv_at hl 4 rfl) ?_
        refine lv_iconst (v := 2) hx hb dL_law_602 (by decide) ?_
        refine lv_iadd hx hb dL_law_603 ?_
        refine lv_topi (fun x_237 ex_237 => ?_)
        have hx_237 := z_add ex_237 rfl (zk (x := 2) 2 rfl) (by omega) (by omega)
        refine va_sld hx hb hXs hbl hbA hS (z_in rfl (by omega) (by omega)) dL_law_604 ?_
        refine lq_top (v := s2) (by rw [hs2]; exact congrArg xs (by rw [z_nat (x := x_237) rfl]; omega)) ?_
        have hFc := tw_free hF hS hA
        refine va_calli (va_runV (As := [.int s1, .int s2]) (rest := []) ⟨hx, hb, hml, hown, hts⟩ (c_at l dC dI ad av H.size a k τ ln y g u s1 s2 hI ) (cwV 2 hts (gi_4 (im_law _ (List.mem_of_getElem? (i := 56) rfl)) (im_law _ (List.mem_of_getElem? (i := 57) rfl)) (im_law _ (List.mem_of_getElem? (i := 58) rfl)) (im_law _ (List.mem_of_getElem? (i := 3) rfl)) im_c_at gd_c_at) rfl rfl rfl (by decide +kernel) ⟨Nat.le_of_ble_eq_true rfl, Nat.le_of_ble_eq_true rfl⟩) ⟨pw_blind, tw_recv hK hT (fx_0 hX) (by decide) cl_e10 rfl, pw_use hT hK hFc hS hM⟩ rfl rfl hl.1 rfl (lv_room (Nat.le_of_ble_eq_true rfl)) dL_law_605 ⟨by show 200 + 4 * q + 0 ≤ 601024; omega, by show 60000 + 100 * q + 0 ≤ 7293034; omega⟩) hS (fun q _ h => hFc q h) hFc (fun r0 r_238 t H locs ht hvm hw hB hz1 hk1 hS => ?_)
        clear hvm hz1 hk1
        subst hw
        have hIo := hI
        obtain ⟨um_239, hum_239, ⟨tm_239, lm_239, ym_239, gm_239, hMo, hKM, hI, hT⟩⟩ := hB
        rw [ht] at hT
        have hF : ∀ q, tm_239 q ≠ 0 → s.heap.size ≤ q := fun q h => hFc q (hMo.2 q h)
        have hFo := hFo.kp hIo hKM (hum_239 1 (by decide)) (hum_239 2 (by decide)) (hum_239 9 (by decide))
        have hKM := hKM.to0
        have hJ := hJ.kp hKM hI.1
        have hW : IW (v 1) (v 2) (v 9) (ym_239 (a 89)) := by rw [hKM.fx hX (j := 89) (by decide) (by decide)]; exact hW
        have hTh : vb 38408 0 4800 (ym_239 (a 99)) := by rw [hKM.fx hX (j := 99) (by decide) (by decide)]; exact hTh
        have hX := hI.1
        have : um_239 2 = u 2 := hum_239 2 (by decide)
        have : um_239 9 = u 9 := hum_239 9 (by decide)
        refine lv_pop hx hb dL_law_608 rfl ?_
        refine lv_aload_n hx hb dL_law_609 rfl (lv_at hl 2 rfl) ?_
        refine lv_aload_n hx hb dL_law_610 rfl (lv_at hl 0 rfl) ?_
        refine lv_iload hx hb dL_law_611 (lv_at hl 4 rfl) ?_
        refine lv_iconst (v := 1) hx hb dL_law_613 (by decide) ?_
        refine lv_iadd hx hb dL_law_614 ?_
        refine lv_topi (fun x_240 ex_240 => ?_)
        have hx_240 := z_add ex_240 rfl (zk (x := 1) 1 rfl) (by omega) (by omega)
        refine va_sld hx hb hXs hbl hbA hS (z_in rfl (by omega) (by omega)) dL_law_615 ?_
        refine lq_top (v := s1) (by rw [hs1]; exact congrArg xs (by rw [z_nat (x := x_240) rfl]; omega)) ?_
        refine lv_aload_n hx hb dL_law_616 rfl (lv_at hl 0 rfl) ?_
        refine lv_iload hx hb dL_law_617 (lv_at hl 4 rfl) ?_
        refine lv_iconst (v := 2) hx hb dL_law_619 (by decide) ?_
        refine lv_iadd hx hb dL_law_620 ?_
        refine lv_topi (fun x_241 ex_241 => ?_)
        have hx_241 := z_add ex_241 rfl (zk (x := 2) 2 rfl) (by omega) (by omega)
        refine va_sld hx hb hXs hbl hbA hS (z_in rfl (by omega) (by omega)) dL_law_621 ?_
        refine lq_top (v := s2) (by rw [hs2]; exact congrArg xs (by rw [z_nat (x := x_241) rfl]; omega)) ?_
        have hFc := tw_free hF hS hA
        refine va_calli (va_runV (As := [.int s1, .int s2]) (rest := []) ⟨hx, hb, hml, hown, hts⟩ (m_at l dC dI ad av H.size a k tm_239 lm_239 ym_239 gm_239 v s1 s2 hJ hW) (cwV 2 hts (gi_4 (im_law _ (List.mem_of_getElem? (i := 59) rfl)) (im_law _ (List.mem_of_getElem? (i := 60) rfl)) (im_law _ (List.mem_of_getElem? (i := 61) rfl)) (im_law _ (List.mem_of_getElem? (i := 7) rfl)) im_m_at gd_m_at) rfl rfl rfl (by decide +kernel) ⟨Nat.le_of_ble_eq_true rfl, Nat.le_of_ble_eq_true rfl⟩) ⟨pw_blind, tw_recv hK hT (fx_50 hX) (by decide) cl_e60 rfl, pw_use hT hK hFc hS hM⟩ rfl rfl hl.1 rfl (lv_room (Nat.le_of_ble_eq_true rfl)) dL_law_622 ⟨by show 200 + 4 * q + 0 + 0 ≤ 601024; omega, by show 60000 + 100 * q + 0 + 0 ≤ 7293034; omega⟩) hS (fun q _ h => hFc q h) hFc (fun r0 r_242 t H locs ht hvm hw hB hz1 hk1 hS => ?_)
        clear hvm hz1 hk1
        subst hw
        have hIo := hI
        obtain ⟨ym_243, gm_243, hgm_243, hggm_243, hJ, hT⟩ := hB
        rw [ht] at hT
        have hFo := hFo.m hIo hgm_243 (by decide) (hggm_243 (a 10) (by rw [fx_10 hX]; decide))
        have hI := hI.ag hgm_243 (by decide)
        have hI := hI.agg hggm_243
        have hW : IW (v 1) (v 2) (v 9) (ym_243 (a 89)) := by rw [hgm_243.at (fx_89 hX) (by decide)]; exact hW
        have hTh : vb 38408 0 4800 (ym_243 (a 99)) := by rw [hgm_243.at (fx_99 hX) (by decide)]; exact hTh
        refine lv_pop hx hb dL_law_625 rfl ?_
        refine lv_goto (tgt := 1360) hx hb dL_law_626 (by decide) ?_
        obtain ⟨x_244, ex_244⟩ : ∃ y : Int32, y = i4 + Int32.ofInt 10 := ⟨_, rfl⟩
        have hx_244 := z_add ex_244 rfl (zk (x := Int32.ofInt 10) 10 rfl) (by omega) (by omega)
        refine lv_iinc (v := x_244) (lv' := [(4, .int x_244), (0, .ref b), (1, .ref (a 0)), (2, .ref (a 50)), (3, .ref (a 49))]) hx hb dL_law_1360 hl (k := 4) rfl ex_244.symm (by decide) rfl (fun ls hl => ?_)
        refine lv_goto (tgt := 23) hx hb dL_law_1363 (by decide) ?_
        refine W.widen (k := 200 + 4 * (q + 1)) (n := 60000 + 100 * (q + 1)) (by omega) (by omega) ?_
        exact ih (q + 1) x_244 tm_239 lm_239 ym_243 gm_243 um_239 v H _ ls (by omega) hF hI hJ hW hTh hFo (by omega) (by omega) (by omega) (by omega) (by omega) hT hS (lv_sub hl [1, 2, 3, 4, 0] rfl)
      · refine lq_top (v := 10) t_5 ?_
        have nt_5 := z_eq rfl (zk (x := 10) 10 rfl) t_5
        refine lv_tableIn (tgt := 629) hx hb dL_law_40 (by decide) (by decide) (off := 589) (by decide) (by decide) ?_
        refine lv_aload_n hx hb dL_law_629 rfl (lv_at hl 1 rfl) ?_
        refine lv_aload_n hx hb dL_law_630 rfl (lv_at hl 0 rfl) ?_
        refine lv_iload hx hb dL_law_631 (lv_at hl 4 rfl) ?_
        refine lv_iconst (v := 1) hx hb dL_law_633 (by decide) ?_
        refine lv_iadd hx hb dL_law_634 ?_
        refine lv_topi (fun x_245 ex_245 => ?_)
        have hx_245 := z_add ex_245 rfl (zk (x := 1) 1 rfl) (by omega) (by omega)
        refine va_sld hx hb hXs hbl hbA hS (z_in rfl (by omega) (by omega)) dL_law_635 ?_
        refine lq_top (v := s1) (by rw [hs1]; exact congrArg xs (by rw [z_nat (x := x_245) rfl]; omega)) ?_
        refine lv_aload_n hx hb dL_law_636 rfl (lv_at hl 0 rfl) ?_
        refine lv_iload hx hb dL_law_637 (lv_at hl 4 rfl) ?_
        refine lv_iconst (v := 2) hx hb dL_law_639 (by decide) ?_
        refine lv_iadd hx hb dL_law_640 ?_
        refine lv_topi (fun x_246 ex_246 => ?_)
        have hx_246 := z_add ex_246 rfl (zk (x := 2) 2 rfl) (by omega) (by omega)
        refine va_sld hx hb hXs hbl hbA hS (z_in rfl (by omega) (by omega)) dL_law_641 ?_
        refine lq_top (v := s2) (by rw [hs2]; exact congrArg xs (by rw [z_nat (x := x_246) rfl]; omega)) ?_
        have hFc := tw_free hF hS hA
        refine va_calli (va_runV (As := [.int s1, .int s2]) (rest := []) ⟨hx, hb, hml, hown, hts⟩ (c_may l dC dI ad av H.size a k τ ln y g u s1 s2 hI ) (cwV 2 hts (gi_4 (im_law _ (List.mem_of_getElem? (i := 62) rfl)) (im_law _ (List.mem_of_getElem? (i := 63) rfl)) (im_law _ (List.mem_of_getElem? (i := 64) rfl)) (im_law _ (List.mem_of_getElem? (i := 3) rfl)) im_c_may gd_c_may) rfl rfl rfl (by decide +kernel) ⟨Nat.le_of_ble_eq_true rfl, Nat.le_of_ble_eq_true rfl⟩) ⟨pw_blind, tw_recv hK hT (fx_0 hX) (by decide) cl_e10 rfl, pw_use hT hK hFc hS hM⟩ rfl rfl hl.1 rfl (lv_room (Nat.le_of_ble_eq_true rfl)) dL_law_642 ⟨by show 200 + 4 * q + 0 ≤ 601024; omega, by show 60000 + 100 * q + 0 ≤ 7293034; omega⟩) hS (fun q _ h => hFc q h) hFc (fun r0 r_247 t H locs ht hvm hw hB hz1 hk1 hS => ?_)
        clear hvm hz1 hk1
        subst hw
        have hIo := hI
        obtain ⟨um_248, hum_248, ⟨tm_248, lm_248, ym_248, gm_248, hMo, hKM, hI, hT⟩⟩ := hB
        rw [ht] at hT
        have hF : ∀ q, tm_248 q ≠ 0 → s.heap.size ≤ q := fun q h => hFc q (hMo.2 q h)
        have hFo := hFo.kp hIo hKM (hum_248 1 (by decide)) (hum_248 2 (by decide)) (hum_248 9 (by decide))
        have hKM := hKM.to0
        have hJ := hJ.kp hKM hI.1
        have hW : IW (v 1) (v 2) (v 9) (ym_248 (a 89)) := by rw [hKM.fx hX (j := 89) (by decide) (by decide)]; exact hW
        have hTh : vb 38408 0 4800 (ym_248 (a 99)) := by rw [hKM.fx hX (j := 99) (by decide) (by decide)]; exact hTh
        have hX := hI.1
        have : um_248 2 = u 2 := hum_248 2 (by decide)
        have : um_248 9 = u 9 := hum_248 9 (by decide)
        refine lv_pop hx hb dL_law_645 rfl ?_
        refine lv_aload_n hx hb dL_law_646 rfl (lv_at hl 2 rfl) ?_
        refine lv_aload_n hx hb dL_law_647 rfl (lv_at hl 0 rfl) ?_
        refine lv_iload hx hb dL_law_648 (lv_at hl 4 rfl) ?_
        refine lv_iconst (v := 1) hx hb dL_law_650 (by decide) ?_
        refine lv_iadd hx hb dL_law_651 ?_
        refine lv_topi (fun x_249 ex_249 => ?_)
        have hx_249 := z_add ex_249 rfl (zk (x := 1) 1 rfl) (by omega) (by omega)
        refine va_sld hx hb hXs hbl hbA hS (z_in rfl (by omega) (by omega)) dL_law_652 ?_
        refine lq_top (v := s1) (by rw [hs1]; exact congrArg xs (by rw [z_nat (x := x_249) rfl]; omega)) ?_
        refine lv_aload_n hx hb dL_law_653 rfl (lv_at hl 0 rfl) ?_
        refine lv_iload hx hb dL_law_654 (lv_at hl 4 rfl) ?_
        refine lv_iconst (v := 2) hx hb dL_law_656 (by decide) ?_
        refine lv_iadd hx hb dL_law_657 ?_
        refine lv_topi (fun x_250 ex_250 => ?_)
        have hx_250 := z_add ex_250 rfl (zk (x := 2) 2 rfl) (by omega) (by omega)
        refine va_sld hx hb hXs hbl hbA hS (z_in rfl (by omega) (by omega)) dL_law_658 ?_
        refine lq_top (v := s2) (by rw [hs2]; exact congrArg xs (by rw [z_nat (x := x_250) rfl]; omega)) ?_
        have hFc := tw_free hF hS hA
        refine va_calli (va_runV (As := [.int s1, .int s2]) (rest := []) ⟨hx, hb, hml, hown, hts⟩ (m_may l dC dI ad av H.size a k tm_248 lm_248 ym_248 gm_248 v s1 s2 hJ hW) (cwV 2 hts (gi_4 (im_law _ (List.mem_of_getElem? (i := 65) rfl)) (im_law _ (List.mem_of_getElem? (i := 66) rfl)) (im_law _ (List.mem_of_getElem? (i := 67) rfl)) (im_law _ (List.mem_of_getElem? (i := 7) rfl)) im_m_may gd_m_may) rfl rfl rfl (by decide +kernel) ⟨Nat.le_of_ble_eq_true rfl, Nat.le_of_ble_eq_true rfl⟩) ⟨pw_blind, tw_recv hK hT (fx_50 hX) (by decide) cl_e60 rfl, pw_use hT hK hFc hS hM⟩ rfl rfl hl.1 rfl (lv_room (Nat.le_of_ble_eq_true rfl)) dL_law_659 ⟨by show 200 + 4 * q + 0 + 0 ≤ 601024; omega, by show 60000 + 100 * q + 0 + 0 ≤ 7293034; omega⟩) hS (fun q _ h => hFc q h) hFc (fun r0 r_251 t H locs ht hvm hw hB hz1 hk1 hS => ?_)
        clear hvm hz1 hk1
        subst hw
        have hIo := hI
        obtain ⟨ym_252, gm_252, hgm_252, hggm_252, hJ, hT⟩ := hB
        rw [ht] at hT
        have hFo := hFo.m hIo hgm_252 (by decide) (hggm_252 (a 10) (by rw [fx_10 hX]; decide))
        have hI := hI.ag hgm_252 (by decide)
        have hI := hI.agg hggm_252
        have hW : IW (v 1) (v 2) (v 9) (ym_252 (a 89)) := by rw [hgm_252.at (fx_89 hX) (by decide)]; exact hW
        have hTh : vb 38408 0 4800 (ym_252 (a 99)) := by rw [hgm_252.at (fx_99 hX) (by decide)]; exact hTh
        refine lv_pop hx hb dL_law_662 rfl ?_
        refine lv_goto (tgt := 1360) hx hb dL_law_663 (by decide) ?_
        obtain ⟨x_253, ex_253⟩ : ∃ y : Int32, y = i4 + Int32.ofInt 10 := ⟨_, rfl⟩
        have hx_253 := z_add ex_253 rfl (zk (x := Int32.ofInt 10) 10 rfl) (by omega) (by omega)
        refine lv_iinc (v := x_253) (lv' := [(4, .int x_253), (0, .ref b), (1, .ref (a 0)), (2, .ref (a 50)), (3, .ref (a 49))]) hx hb dL_law_1360 hl (k := 4) rfl ex_253.symm (by decide) rfl (fun ls hl => ?_)
        refine lv_goto (tgt := 23) hx hb dL_law_1363 (by decide) ?_
        refine W.widen (k := 200 + 4 * (q + 1)) (n := 60000 + 100 * (q + 1)) (by omega) (by omega) ?_
        exact ih (q + 1) x_253 tm_248 lm_248 ym_252 gm_252 um_248 v H _ ls (by omega) hF hI hJ hW hTh hFo (by omega) (by omega) (by omega) (by omega) (by omega) hT hS (lv_sub hl [1, 2, 3, 4, 0] rfl)
      · refine lq_top (v := 11) t_5 ?_
        have nt_5 := z_eq rfl (zk (x := 11) 11 rfl) t_5
        refine lv_tableIn (tgt := 666) hx hb dL_law_40 (by decide) (by decide) (off := 626) (by decide) (by decide) ?_
        refine lv_aload_n hx hb dL_law_666 rfl (lv_at hl 1 rfl) ?_
        refine lv_aload_n hx hb dL_law_667 rfl (lv_at hl 0 rfl) ?_
        refine lv_iload hx hb dL_law_668 (lv_at hl 4 rfl) ?_
        refine lv_iconst (v := 1) hx hb dL_law_670 (by decide) ?_
        refine lv_iadd hx hb dL_law_671 ?_
        refine lv_topi (fun x_254 ex_254 => ?_)
        have hx_254 := z_add ex_254 rfl (zk (x := 1) 1 rfl) (by omega) (by omega)
        refine va_sld hx hb hXs hbl hbA hS (z_in rfl (by omega) (by omega)) dL_law_672 ?_
        refine lq_top (v := s1) (by rw [hs1]; exact congrArg xs (by rw [z_nat (x := x_254) rfl]; omega)) ?_
        refine lv_aload_n hx hb dL_law_673 rfl (lv_at hl 0 rfl) ?_
        refine lv_iload hx hb dL_law_674 (lv_at hl 4 rfl) ?_
        refine lv_iconst (v := 2) hx hb dL_law_676 (by decide) ?_
        refine lv_iadd hx hb dL_law_677 ?_
        refine lv_topi (fun x_255 ex_255 => ?_)
        have hx_255 := z_add ex_255 rfl (zk (x := 2) 2 rfl) (by omega) (by omega)
        refine va_sld hx hb hXs hbl hbA hS (z_in rfl (by omega) (by omega)) dL_law_678 ?_
        refine lq_top (v := s2) (by rw [hs2]; exact congrArg xs (by rw [z_nat (x := x_255) rfl]; omega)) ?_
        refine lv_aload_n hx hb dL_law_679 rfl (lv_at hl 3 rfl) ?_
        have hFc := tw_free hF hS hA
        refine va_calli (vx_runSW (As := [.ref (a 0), .int s1, .int s2, .ref (a 49)]) (rest := []) ⟨hx, hb, hml, hown, hts⟩ (k_order l hst dC dI ad av H.size a k τ ln y g u s1 s2 hI ) (vx_cwSW 4 hts (gi_3 (im_law _ (List.mem_of_getElem? (i := 68) rfl)) (im_law _ (List.mem_of_getElem? (i := 69) rfl)) (im_law _ (List.mem_of_getElem? (i := 52) rfl)) im_k_order gd_k_order) rfl rfl rfl (by decide +kernel) ⟨Nat.le_of_ble_eq_true rfl, Nat.le_of_ble_eq_true rfl⟩) ⟨pw_blind, pw_use hT hK hFc hS hM⟩ rfl rfl hl.1 rfl (lv_room (Nat.le_of_ble_eq_true rfl)) dL_law_680 ⟨by show 200 + 4 * q + 1 ≤ 601024; omega, by show 60000 + 100 * q + 6 ≤ 7293034; omega⟩) hS (fun q _ h => hFc q h) hFc (fun r0 r_256 t H locs ht hvm hw hB hz1 hk1 hS => ?_)
        clear hvm hz1 hk1
        subst hw
        have hIo := hI
        obtain ⟨um_257, hum_257, ⟨tm_257, lm_257, ym_257, gm_257, hMo, hKM, hI, hT⟩⟩ := hB
        rw [ht] at hT
        have hF : ∀ q, tm_257 q ≠ 0 → s.heap.size ≤ q := fun q h => hFc q (hMo.2 q h)
        have hFo := hFo.kp hIo hKM (hum_257 1 (by decide)) (hum_257 2 (by decide)) (hum_257 9 (by decide))
        have hKM := hKM.to0
        have hJ := hJ.kp hKM hI.1
        have hW : IW (v 1) (v 2) (v 9) (ym_257 (a 89)) := by rw [hKM.fx hX (j := 89) (by decide) (by decide)]; exact hW
        have hTh : vb 38408 0 4800 (ym_257 (a 99)) := by rw [hKM.fx hX (j := 99) (by decide) (by decide)]; exact hTh
        have hX := hI.1
        have : um_257 2 = u 2 := hum_257 2 (by decide)
        have : um_257 9 = u 9 := hum_257 9 (by decide)
        refine lv_istore (lv' := [(5, .int r_256), (0, .ref b), (1, .ref (a 0)), (2, .ref (a 50)), (3, .ref (a 49)), (4, .int i4)]) hx hb dL_law_683 hl (by decide) rfl (fun ls hl => ?_)
        refine lv_aload_n hx hb dL_law_685 rfl (lv_at hl 3 rfl) ?_
        refine lv_aload_n hx hb dL_law_686 rfl (lv_at hl 1 rfl) ?_
        refine lv_iload hx hb dL_law_687 (lv_at hl 5 rfl) ?_
        refine lv_iconst (v := 1) hx hb dL_law_689 (by decide) ?_
        refine lv_iadd hx hb dL_law_690 ?_
        refine lv_topi (fun x_258 ex_258 => ?_)
        have hx_258 := z_add ex_258 rfl (zk (x := 1) 1 rfl) (by omega) (by omega)
        refine va_sld hx hb hXs hbl hbA hS (z_in rfl (by omega) (by omega)) dL_law_691 ?_
        refine lq_top (v := s1) (by rw [hs1]; exact congrArg xs (by rw [z_nat (x := x_258) rfl]; omega)) ?_
        refine lv_aload_n hx hb dL_law_692 rfl (lv_at hl 1 rfl) ?_
        refine lv_iload hx hb dL_law_693 (lv_at hl 5 rfl) ?_
        refine lv_iconst (v := 2) hx hb dL_law_695 (by decide) ?_
        refine lv_iadd hx hb dL_law_696 ?_
        refine lv_topi (fun x_259 ex_259 => ?_)
        have hx_259 := z_add ex_259 rfl (zk (x := 2) 2 rfl) (by omega) (by omega)
        refine va_sld hx hb hXs hbl hbA hS (z_in rfl (by omega) (by omega)) dL_law_697 ?_
        refine lq_top (v := s2) (by rw [hs2]; exact congrArg xs (by rw [z_nat (x := x_259) rfl]; omega)) ?_
        have hFc := tw_free hF hS hA
        refine va_calli (va_runV (As := [.int s1, .int s2]) (rest := []) ⟨hx, hb, hml, hown, hts⟩ (m_order l dC dI ad av H.size a k tm_257 lm_257 ym_257 gm_257 v s1 s2 hJ hW) (cwV 2 hts (gi_4 (im_law _ (List.mem_of_getElem? (i := 70) rfl)) (im_law _ (List.mem_of_getElem? (i := 71) rfl)) (im_law _ (List.mem_of_getElem? (i := 72) rfl)) (im_law _ (List.mem_of_getElem? (i := 7) rfl)) im_m_order gd_m_order) rfl rfl rfl (by decide +kernel) ⟨Nat.le_of_ble_eq_true rfl, Nat.le_of_ble_eq_true rfl⟩) ⟨pw_blind, tw_recv hK hT (fx_50 hX) (by decide) cl_e60 rfl, pw_use hT hK hFc hS hM⟩ rfl rfl hl.1 rfl (lv_room (Nat.le_of_ble_eq_true rfl)) dL_law_698 ⟨by show 200 + 4 * q + 1 + 0 ≤ 601024; omega, by show 60000 + 100 * q + 6 + 0 ≤ 7293034; omega⟩) hS (fun q _ h => hFc q h) hFc (fun r0 r_260 t H locs ht hvm hw hB hz1 hk1 hS => ?_)
        clear hvm hz1 hk1
        subst hw
        have hIo := hI
        obtain ⟨ym_261, gm_261, hgm_261, hggm_261, hJ, hT⟩ := hB
        rw [ht] at hT
        have hFo := hFo.m hIo hgm_261 (by decide) (hggm_261 (a 10) (by rw [fx_10 hX]; decide))
        have hI := hI.ag hgm_261 (by decide)
        have hI := hI.agg hggm_261
        have hW : IW (v 1) (v 2) (v 9) (ym_261 (a 89)) := by rw [hgm_261.at (fx_89 hX) (by decide)]; exact hW
        have hTh : vb 38408 0 4800 (ym_261 (a 99)) := by rw [hgm_261.at (fx_99 hX) (by decide)]; exact hTh
        refine lv_istore (lv' := [(6, .int r_260), (5, .int r_256), (0, .ref b), (1, .ref (a 0)), (2, .ref (a 50)), (3, .ref (a 49)), (4, .int i4)]) hx hb dL_law_701 hl (by decide) rfl (fun ls hl => ?_)
        refine lv_goto (tgt := 1360) hx hb dL_law_703 (by decide) ?_
        obtain ⟨x_262, ex_262⟩ : ∃ y : Int32, y = i4 + Int32.ofInt 10 := ⟨_, rfl⟩
        have hx_262 := z_add ex_262 rfl (zk (x := Int32.ofInt 10) 10 rfl) (by omega) (by omega)
        refine lv_iinc (v := x_262) (lv' := [(4, .int x_262), (6, .int r_260), (5, .int r_256), (0, .ref b), (1, .ref (a 0)), (2, .ref (a 50)), (3, .ref (a 49))]) hx hb dL_law_1360 hl (k := 6) rfl ex_262.symm (by decide) rfl (fun ls hl => ?_)
        refine lv_goto (tgt := 23) hx hb dL_law_1363 (by decide) ?_
        refine W.widen (k := 200 + 4 * (q + 1)) (n := 60000 + 100 * (q + 1)) (by omega) (by omega) ?_
        exact ih (q + 1) x_262 tm_257 lm_257 ym_261 gm_261 um_257 v H _ ls (by omega) hF hI hJ hW hTh hFo (by omega) (by omega) (by omega) (by omega) (by omega) hT hS (lv_sub hl [3, 4, 5, 6, 0] rfl)
      · refine lq_top (v := 12) t_5 ?_
        have nt_5 := z_eq rfl (zk (x := 12) 12 rfl) t_5
        refine lv_tableIn (tgt := 706) hx hb dL_law_40 (by decide) (by decide) (off := 666) (by decide) (by decide) ?_
        refine lv_aload_n hx hb dL_law_706 rfl (lv_at hl 1 rfl) ?_
        refine lv_aload_n hx hb dL_law_707 rfl (lv_at hl 0 rfl) ?_
        refine lv_iload hx hb dL_law_708 (lv_at hl 4 rfl) ?_
        refine lv_iconst (v := 1) hx hb dL_law_710 (by decide) ?_
        refine lv_iadd hx hb dL_law_711 ?_
        refine lv_topi (fun x_263 ex_263 => ?_)
        have hx_263 := z_add ex_263 rfl (zk (x := 1) 1 rfl) (by omega) (by omega)
        refine va_sld hx hb hXs hbl hbA hS (z_in rfl (by omega) (by omega)) dL_law_712 ?_
        refine lq_top (v := s1) (by rw [hs1]; exact congrArg xs (by rw [z_nat (x := x_263) rfl]; omega)) ?_
        have hFc := tw_free hF hS hA
        refine va_calli (va_runV (As := [.int s1]) (rest := []) ⟨hx, hb, hml, hown, hts⟩ (c_goes l dC dI ad av H.size a k τ ln y g u s1 hI ) (cwV 1 hts (gi_4 (im_law _ (List.mem_of_getElem? (i := 73) rfl)) (im_law _ (List.mem_of_getElem? (i := 74) rfl)) (im_law _ (List.mem_of_getElem? (i := 75) rfl)) (im_law _ (List.mem_of_getElem? (i := 3) rfl)) im_c_goes gd_c_goes) rfl rfl rfl (by decide +kernel) ⟨Nat.le_of_ble_eq_true rfl, Nat.le_of_ble_eq_true rfl⟩) ⟨pw_blind, tw_recv hK hT (fx_0 hX) (by decide) cl_e10 rfl, pw_use hT hK hFc hS hM⟩ rfl rfl hl.1 rfl (lv_room (Nat.le_of_ble_eq_true rfl)) dL_law_713 ⟨by show 200 + 4 * q + 0 ≤ 601024; omega, by show 60000 + 100 * q + 0 ≤ 7293034; omega⟩) hS (fun q _ h => hFc q h) hFc (fun r0 r_264 t H locs ht hvm hw hB hz1 hk1 hS => ?_)
        clear hvm hz1 hk1
        subst hw
        have hIo := hI
        obtain ⟨um_265, hum_265, ⟨tm_265, lm_265, ym_265, gm_265, hMo, hKM, hI, hT⟩⟩ := hB
        rw [ht] at hT
        have hF : ∀ q, tm_265 q ≠ 0 → s.heap.size ≤ q := fun q h => hFc q (hMo.2 q h)
        have hFo := hFo.kp hIo hKM (hum_265 1 (by decide)) (hum_265 2 (by decide)) (hum_265 9 (by decide))
        have hKM := hKM.to0
        have hJ := hJ.kp hKM hI.1
        have hW : IW (v 1) (v 2) (v 9) (ym_265 (a 89)) := by rw [hKM.fx hX (j := 89) (by decide) (by decide)]; exact hW
        have hTh : vb 38408 0 4800 (ym_265 (a 99)) := by rw [hKM.fx hX (j := 99) (by decide) (by decide)]; exact hTh
        have hX := hI.1
        have : um_265 2 = u 2 := hum_265 2 (by decide)
        have : um_265 9 = u 9 := hum_265 9 (by decide)
        refine lv_pop hx hb dL_law_716 rfl ?_
        refine lv_aload_n hx hb dL_law_717 rfl (lv_at hl 2 rfl) ?_
        refine lv_aload_n hx hb dL_law_718 rfl (lv_at hl 0 rfl) ?_
        refine lv_iload hx hb dL_law_719 (lv_at hl 4 rfl) ?_
        refine lv_iconst (v := 1) hx hb dL_law_721 (by decide) ?_
        refine lv_iadd hx hb dL_law_722 ?_
        refine lv_topi (fun x_266 ex_266 => ?_)
        have hx_266 := z_add ex_266 rfl (zk (x := 1) 1 rfl) (by omega) (by omega)
        refine va_sld hx hb hXs hbl hbA hS (z_in rfl (by omega) (by omega)) dL_law_723 ?_
        refine lq_top (v := s1) (by rw [hs1]; exact congrArg xs (by rw [z_nat (x := x_266) rfl]; omega)) ?_
        have hFc := tw_free hF hS hA
        refine va_calli (va_runV (As := [.int s1]) (rest := []) ⟨hx, hb, hml, hown, hts⟩ (m_goes l dC dI ad av H.size a k tm_265 lm_265 ym_265 gm_265 v s1 hJ hW) (cwV 1 hts (gi_4 (im_law _ (List.mem_of_getElem? (i := 76) rfl)) (im_law _ (List.mem_of_getElem? (i := 77) rfl)) (im_law _ (List.mem_of_getElem? (i := 78) rfl)) (im_law _ (List.mem_of_getElem? (i := 7) rfl)) im_m_goes gd_m_goes) rfl rfl rfl (by decide +kernel) ⟨Nat.le_of_ble_eq_true rfl, Nat.le_of_ble_eq_true rfl⟩) ⟨pw_blind, tw_recv hK hT (fx_50 hX) (by decide) cl_e60 rfl, pw_use hT hK hFc hS hM⟩ rfl rfl hl.1 rfl (lv_room (Nat.le_of_ble_eq_true rfl)) dL_law_724 ⟨by show 200 + 4 * q + 0 + 0 ≤ 601024; omega, by show 60000 + 100 * q + 0 + 0 ≤ 7293034; omega⟩) hS (fun q _ h => hFc q h) hFc (fun r0 r_267 t H locs ht hvm hw hB hz1 hk1 hS => ?_)
        clear hvm hz1 hk1
        subst hw
        have hIo := hI
        obtain ⟨ym_268, gm_268, hgm_268, hggm_268, hJ, hT⟩ := hB
        rw [ht] at hT
        have hFo := hFo.m hIo hgm_268 (by decide) (hggm_268 (a 10) (by rw [fx_10 hX]; decide))
        have hI := hI.ag hgm_268 (by decide)
        have hI := hI.agg hggm_268
        have hW : IW (v 1) (v 2) (v 9) (ym_268 (a 89)) := by rw [hgm_268.at (fx_89 hX) (by decide)]; exact hW
        have hTh : vb 38408 0 4800 (ym_268 (a 99)) := by rw [hgm_268.at (fx_99 hX) (by decide)]; exact hTh
        refine lv_pop hx hb dL_law_727 rfl ?_
        refine lv_goto (tgt := 1360) hx hb dL_law_728 (by decide) ?_
        obtain ⟨x_269, ex_269⟩ : ∃ y : Int32, y = i4 + Int32.ofInt 10 := ⟨_, rfl⟩
        have hx_269 := z_add ex_269 rfl (zk (x := Int32.ofInt 10) 10 rfl) (by omega) (by omega)
        refine lv_iinc (v := x_269) (lv' := [(4, .int x_269), (0, .ref b), (1, .ref (a 0)), (2, .ref (a 50)), (3, .ref (a 49))]) hx hb dL_law_1360 hl (k := 4) rfl ex_269.symm (by decide) rfl (fun ls hl => ?_)
        refine lv_goto (tgt := 23) hx hb dL_law_1363 (by decide) ?_
        refine W.widen (k := 200 + 4 * (q + 1)) (n := 60000 + 100 * (q + 1)) (by omega) (by omega) ?_
        exact ih (q + 1) x_269 tm_265 lm_265 ym_268 gm_268 um_265 v H _ ls (by omega) hF hI hJ hW hTh hFo (by omega) (by omega) (by omega) (by omega) (by omega) hT hS (lv_sub hl [1, 2, 3, 4, 0] rfl)
      · refine lq_top (v := 13) t_5 ?_
        have nt_5 := z_eq rfl (zk (x := 13) 13 rfl) t_5
        refine lv_tableIn (tgt := 731) hx hb dL_law_40 (by decide) (by decide) (off := 691) (by decide) (by decide) ?_
        refine lv_aload_n hx hb dL_law_731 rfl (lv_at hl 1 rfl) ?_
        refine lv_aload_n hx hb dL_law_732 rfl (lv_at hl 0 rfl) ?_
        refine lv_iload hx hb dL_law_733 (lv_at hl 4 rfl) ?_
        refine lv_iconst (v := 1) hx hb dL_law_735 (by decide) ?_
        refine lv_iadd hx hb dL_law_736 ?_
        refine lv_topi (fun x_270 ex_270 => ?_)
        have hx_270 := z_add ex_270 rfl (zk (x := 1) 1 rfl) (by omega) (by omega)
        refine va_sld hx hb hXs hbl hbA hS (z_in rfl (by omega) (by omega)) dL_law_737 ?_
        refine lq_top (v := s1) (by rw [hs1]; exact congrArg xs (by rw [z_nat (x := x_270) rfl]; omega)) ?_
        have hFc := tw_free hF hS hA
        refine va_calli (va_runV (As := [.int s1]) (rest := []) ⟨hx, hb, hml, hown, hts⟩ (c_count l dC dI ad av H.size a k τ ln y g u s1 hI ) (cwV 1 hts (gi_4 (im_law _ (List.mem_of_getElem? (i := 79) rfl)) (im_law _ (List.mem_of_getElem? (i := 80) rfl)) (im_law _ (List.mem_of_getElem? (i := 81) rfl)) (im_law _ (List.mem_of_getElem? (i := 3) rfl)) im_c_count gd_c_count) rfl rfl rfl (by decide +kernel) ⟨Nat.le_of_ble_eq_true rfl, Nat.le_of_ble_eq_true rfl⟩) ⟨pw_blind, tw_recv hK hT (fx_0 hX) (by decide) cl_e10 rfl, pw_use hT hK hFc hS hM⟩ rfl rfl hl.1 rfl (lv_room (Nat.le_of_ble_eq_true rfl)) dL_law_738 ⟨by show 200 + 4 * q + 0 ≤ 601024; omega, by show 60000 + 100 * q + 0 ≤ 7293034; omega⟩) hS (fun q _ h => hFc q h) hFc (fun r0 r_271 t H locs ht hvm hw hB hz1 hk1 hS => ?_)
        clear hvm hz1 hk1
        subst hw
        have hIo := hI
        obtain ⟨um_272, hum_272, ⟨tm_272, lm_272, ym_272, gm_272, hMo, hKM, hI, hT⟩⟩ := hB
        rw [ht] at hT
        have hF : ∀ q, tm_272 q ≠ 0 → s.heap.size ≤ q := fun q h => hFc q (hMo.2 q h)
        have hFo := hFo.kp hIo hKM (hum_272 1 (by decide)) (hum_272 2 (by decide)) (hum_272 9 (by decide))
        have hKM := hKM.to0
        have hJ := hJ.kp hKM hI.1
        have hW : IW (v 1) (v 2) (v 9) (ym_272 (a 89)) := by rw [hKM.fx hX (j := 89) (by decide) (by decide)]; exact hW
        have hTh : vb 38408 0 4800 (ym_272 (a 99)) := by rw [hKM.fx hX (j := 99) (by decide) (by decide)]; exact hTh
        have hX := hI.1
        have : um_272 2 = u 2 := hum_272 2 (by decide)
        have : um_272 9 = u 9 := hum_272 9 (by decide)
        refine lv_pop hx hb dL_law_741 rfl ?_
        refine lv_aload_n hx hb dL_law_742 rfl (lv_at hl 2 rfl) ?_
        refine lv_aload_n hx hb dL_law_743 rfl (lv_at hl 0 rfl) ?_
        refine lv_iload hx hb dL_law_744 (lv_at hl 4 rfl) ?_
        refine lv_iconst (v := 1) hx hb dL_law_746 (by decide) ?_
        refine lv_iadd hx hb dL_law_747 ?_
        refine lv_topi (fun x_273 ex_273 => ?_)
        have hx_273 := z_add ex_273 rfl (zk (x := 1) 1 rfl) (by omega) (by omega)
        refine va_sld hx hb hXs hbl hbA hS (z_in rfl (by omega) (by omega)) dL_law_748 ?_
        refine lq_top (v := s1) (by rw [hs1]; exact congrArg xs (by rw [z_nat (x := x_273) rfl]; omega)) ?_
        have hFc := tw_free hF hS hA
        refine va_calli (va_runV (As := [.int s1]) (rest := []) ⟨hx, hb, hml, hown, hts⟩ (m_count l dC dI ad av H.size a k tm_272 lm_272 ym_272 gm_272 v s1 hJ hW) (cwV 1 hts (gi_4 (im_law _ (List.mem_of_getElem? (i := 82) rfl)) (im_law _ (List.mem_of_getElem? (i := 83) rfl)) (im_law _ (List.mem_of_getElem? (i := 84) rfl)) (im_law _ (List.mem_of_getElem? (i := 7) rfl)) im_m_count gd_m_count) rfl rfl rfl (by decide +kernel) ⟨Nat.le_of_ble_eq_true rfl, Nat.le_of_ble_eq_true rfl⟩) ⟨pw_blind, tw_recv hK hT (fx_50 hX) (by decide) cl_e60 rfl, pw_use hT hK hFc hS hM⟩ rfl rfl hl.1 rfl (lv_room (Nat.le_of_ble_eq_true rfl)) dL_law_749 ⟨by show 200 + 4 * q + 0 + 0 ≤ 601024; omega, by show 60000 + 100 * q + 0 + 0 ≤ 7293034; omega⟩) hS (fun q _ h => hFc q h) hFc (fun r0 r_274 t H locs ht hvm hw hB hz1 hk1 hS => ?_)
        clear hvm hz1 hk1
        subst hw
        have hIo := hI
        obtain ⟨ym_275, gm_275, hgm_275, hggm_275, hJ, hT⟩ := hB
        rw [ht] at hT
        have hFo := hFo.m hIo hgm_275 (by decide) (hggm_275 (a 10) (by rw [fx_10 hX]; decide))
        have hI := hI.ag hgm_275 (by decide)
        have hI := hI.agg hggm_275
        have hW : IW (v 1) (v 2) (v 9) (ym_275 (a 89)) := by rw [hgm_275.at (fx_89 hX) (by decide)]; exact hW
        have hTh : vb 38408 0 4800 (ym_275 (a 99)) := by rw [hgm_275.at (fx_99 hX) (by decide)]; exact hTh
        refine lv_pop hx hb dL_law_752 rfl ?_
        refine lv_goto (tgt := 1360) hx hb dL_law_753 (by decide) ?_
        obtain ⟨x_276, ex_276⟩ : ∃ y : Int32, y = i4 + Int32.ofInt 10 := ⟨_, rfl⟩
        have hx_276 := z_add ex_276 rfl (zk (x := Int32.ofInt 10) 10 rfl) (by omega) (by omega)
        refine lv_iinc (v := x_276) (lv' := [(4, .int x_276), (0, .ref b), (1, .ref (a 0)), (2, .ref (a 50)), (3, .ref (a 49))]) hx hb dL_law_1360 hl (k := 4) rfl ex_276.symm (by decide) rfl (fun ls hl => ?_)
        refine lv_goto (tgt := 23) hx hb dL_law_1363 (by decide) ?_
        refine W.widen (k := 200 + 4 * (q + 1)) (n := 60000 + 100 * (q + 1)) (by omega) (by omega) ?_
        exact ih (q + 1) x_276 tm_272 lm_272 ym_275 gm_275 um_272 v H _ ls (by omega) hF hI hJ hW hTh hFo (by omega) (by omega) (by omega) (by omega) (by omega) hT hS (lv_sub hl [1, 2, 3, 4, 0] rfl)
      · refine lq_top (v := 14) t_5 ?_
        have nt_5 := z_eq rfl (zk (x := 14) 14 rfl) t_5
        refine lv_tableIn (tgt := 756) hx hb dL_law_40 (by decide) (by decide) (off := 716) (by decide) (by decide) ?_
        refine lv_aload_n hx hb dL_law_756 rfl (lv_at hl 1 rfl) ?_
        refine lv_aload_n hx hb dL_law_757 rfl (lv_at hl 0 rfl) ?_
        refine lv_iload hx hb dL_law_758 (lv_at hl 4 rfl) ?_
        refine lv_iconst (v := 1) hx hb dL_law_760 (by decide) ?_
        refine lv_iadd hx hb dL_law_761 ?_
        refine lv_topi (fun x_277 ex_277 => ?_)
        have hx_277 := z_add ex_277 rfl (zk (x := 1) 1 rfl) (by omega) (by omega)
        refine va_sld hx hb hXs hbl hbA hS (z_in rfl (by omega) (by omega)) dL_law_762 ?_
        refine lq_top (v := s1) (by rw [hs1]; exact congrArg xs (by rw [z_nat (x := x_277) rfl]; omega)) ?_
        refine lv_aload_n hx hb dL_law_763 rfl (lv_at hl 0 rfl) ?_
        refine lv_iload hx hb dL_law_764 (lv_at hl 4 rfl) ?_
        refine lv_iconst (v := 2) hx hb dL_law_766 (by decide) ?_
        refine lv_iadd hx hb dL_law_767 ?_
        refine lv_topi (fun x_278 ex_278 => ?_)
        have hx_278 := z_add ex_278 rfl (zk (x := 2) 2 rfl) (by omega) (by omega)
        refine va_sld hx hb hXs hbl hbA hS (z_in rfl (by omega) (by omega)) dL_law_768 ?_
        refine lq_top (v := s2) (by rw [hs2]; exact congrArg xs (by rw [z_nat (x := x_278) rfl]; omega)) ?_
        refine lv_aload_n hx hb dL_law_769 rfl (lv_at hl 0 rfl) ?_
        refine lv_iload hx hb dL_law_770 (lv_at hl 4 rfl) ?_
        refine lv_iconst (v := 3) hx hb dL_law_772 (by decide) ?_
        refine lv_iadd hx hb dL_law_773 ?_
        refine lv_topi (fun x_279 ex_279 => ?_)
        have hx_279 := z_add ex_279 rfl (zk (x := 3) 3 rfl) (by omega) (by omega)
        refine va_sld hx hb hXs hbl hbA hS (z_in rfl (by omega) (by omega)) dL_law_774 ?_
        refine lq_top (v := s3) (by rw [hs3]; exact congrArg xs (by rw [z_nat (x := x_279) rfl]; omega)) ?_
        refine lv_aload_n hx hb dL_law_775 rfl (lv_at hl 0 rfl) ?_
        refine lv_iload hx hb dL_law_776 (lv_at hl 4 rfl) ?_
        refine lv_iconst (v := 4) hx hb dL_law_778 (by decide) ?_
        refine lv_iadd hx hb dL_law_779 ?_
        refine lv_topi (fun x_280 ex_280 => ?_)
        have hx_280 := z_add ex_280 rfl (zk (x := 4) 4 rfl) (by omega) (by omega)
        refine va_sld hx hb hXs hbl hbA hS (z_in rfl (by omega) (by omega)) dL_law_780 ?_
        refine lq_top (v := s4) (by rw [hs4]; exact congrArg xs (by rw [z_nat (x := x_280) rfl]; omega)) ?_
        refine lv_aload_n hx hb dL_law_781 rfl (lv_at hl 0 rfl) ?_
        refine lv_iload hx hb dL_law_782 (lv_at hl 4 rfl) ?_
        refine lv_iconst (v := 5) hx hb dL_law_784 (by decide) ?_
        refine lv_iadd hx hb dL_law_785 ?_
        refine lv_topi (fun x_281 ex_281 => ?_)
        have hx_281 := z_add ex_281 rfl (zk (x := 5) 5 rfl) (by omega) (by omega)
        refine va_sld hx hb hXs hbl hbA hS (z_in rfl (by omega) (by omega)) dL_law_786 ?_
        refine lq_top (v := s5) (by rw [hs5]; exact congrArg xs (by rw [z_nat (x := x_281) rfl]; omega)) ?_
        have hFc := tw_free hF hS hA
        refine va_calli (va_runV (As := [.int s1, .int s2, .int s3, .int s4, .int s5]) (rest := []) ⟨hx, hb, hml, hown, hts⟩ (c_correct l dC dI ad av H.size a k τ ln y g u s1 s2 s3 s4 s5 hI ) (cwV 5 hts (gi_4 (im_law _ (List.mem_of_getElem? (i := 85) rfl)) (im_law _ (List.mem_of_getElem? (i := 86) rfl)) (im_law _ (List.mem_of_getElem? (i := 87) rfl)) (im_law _ (List.mem_of_getElem? (i := 3) rfl)) im_c_correct gd_c_correct) rfl rfl rfl (by decide +kernel) ⟨Nat.le_of_ble_eq_true rfl, Nat.le_of_ble_eq_true rfl⟩) ⟨pw_blind, tw_recv hK hT (fx_0 hX) (by decide) cl_e10 rfl, pw_use hT hK hFc hS hM⟩ rfl rfl hl.1 rfl (lv_room (Nat.le_of_ble_eq_true rfl)) dL_law_787 ⟨by show 200 + 4 * q + 1 ≤ 601024; omega, by show 60000 + 100 * q + 6 ≤ 7293034; omega⟩) hS (fun q _ h => hFc q h) hFc (fun r0 r_282 t H locs ht hvm hw hB hz1 hk1 hS => ?_)
        clear hvm hz1 hk1
        subst hw
        have hIo := hI
        obtain ⟨um_283, hum_283, ⟨tm_283, lm_283, ym_283, gm_283, hMo, hKM, hI, hT⟩⟩ := hB
        rw [ht] at hT
        have hF : ∀ q, tm_283 q ≠ 0 → s.heap.size ≤ q := fun q h => hFc q (hMo.2 q h)
        have hFo := hFo.kp hIo hKM (hum_283 1 (by decide)) (hum_283 2 (by decide)) (hum_283 9 (by decide))
        have hKM := hKM.to0
        have hJ := hJ.kp hKM hI.1
        have hW : IW (v 1) (v 2) (v 9) (ym_283 (a 89)) := by rw [hKM.fx hX (j := 89) (by decide) (by decide)]; exact hW
        have hTh : vb 38408 0 4800 (ym_283 (a 99)) := by rw [hKM.fx hX (j := 99) (by decide) (by decide)]; exact hTh
        have hX := hI.1
        have : um_283 2 = u 2 := hum_283 2 (by decide)
        have : um_283 9 = u 9 := hum_283 9 (by decide)
        refine lv_pop hx hb dL_law_790 rfl ?_
        refine lv_aload_n hx hb dL_law_791 rfl (lv_at hl 2 rfl) ?_
        refine lv_aload_n hx hb dL_law_792 rfl (lv_at hl 0 rfl) ?_
        refine lv_iload hx hb dL_law_793 (lv_at hl 4 rfl) ?_
        refine lv_iconst (v := 1) hx hb dL_law_795 (by decide) ?_
        refine lv_iadd hx hb dL_law_796 ?_
        refine lv_topi (fun x_284 ex_284 => ?_)
        have hx_284 := z_add ex_284 rfl (zk (x := 1) 1 rfl) (by omega) (by omega)
        refine va_sld hx hb hXs hbl hbA hS (z_in rfl (by omega) (by omega)) dL_law_797 ?_
        refine lq_top (v := s1) (by rw [hs1]; exact congrArg xs (by rw [z_nat (x := x_284) rfl]; omega)) ?_
        refine lv_aload_n hx hb dL_law_798 rfl (lv_at hl 0 rfl) ?_
        refine lv_iload hx hb dL_law_799 (lv_at hl 4 rfl) ?_
        refine lv_iconst (v := 2) hx hb dL_law_801 (by decide) ?_
        refine lv_iadd hx hb dL_law_802 ?_
        refine lv_topi (fun x_285 ex_285 => ?_)
        have hx_285 := z_add ex_285 rfl (zk (x := 2) 2 rfl) (by omega) (by omega)
        refine va_sld hx hb hXs hbl hbA hS (z_in rfl (by omega) (by omega)) dL_law_803 ?_
        refine lq_top (v := s2) (by rw [hs2]; exact congrArg xs (by rw [z_nat (x := x_285) rfl]; omega)) ?_
        refine lv_aload_n hx hb dL_law_804 rfl (lv_at hl 0 rfl) ?_
        refine lv_iload hx hb dL_law_805 (lv_at hl 4 rfl) ?_
        refine lv_iconst (v := 3) hx hb dL_law_807 (by decide) ?_
        refine lv_iadd hx hb dL_law_808 ?_
        refine lv_topi (fun x_286 ex_286 => ?_)
        have hx_286 := z_add ex_286 rfl (zk (x := 3) 3 rfl) (by omega) (by omega)
        refine va_sld hx hb hXs hbl hbA hS (z_in rfl (by omega) (by omega)) dL_law_809 ?_
        refine lq_top (v := s3) (by rw [hs3]; exact congrArg xs (by rw [z_nat (x := x_286) rfl]; omega)) ?_
        refine lv_aload_n hx hb dL_law_810 rfl (lv_at hl 0 rfl) ?_
        refine lv_iload hx hb dL_law_811 (lv_at hl 4 rfl) ?_
        refine lv_iconst (v := 4) hx hb dL_law_813 (by decide) ?_
        refine lv_iadd hx hb dL_law_814 ?_
        refine lv_topi (fun x_287 ex_287 => ?_)
        have hx_287 := z_add ex_287 rfl (zk (x := 4) 4 rfl) (by omega) (by omega)
        refine va_sld hx hb hXs hbl hbA hS (z_in rfl (by omega) (by omega)) dL_law_815 ?_
        refine lq_top (v := s4) (by rw [hs4]; exact congrArg xs (by rw [z_nat (x := x_287) rfl]; omega)) ?_
        refine lv_aload_n hx hb dL_law_816 rfl (lv_at hl 0 rfl) ?_
        refine lv_iload hx hb dL_law_817 (lv_at hl 4 rfl) ?_
        refine lv_iconst (v := 5) hx hb dL_law_819 (by decide) ?_
        refine lv_iadd hx hb dL_law_820 ?_
        refine lv_topi (fun x_288 ex_288 => ?_)
        have hx_288 := z_add ex_288 rfl (zk (x := 5) 5 rfl) (by omega) (by omega)
        refine va_sld hx hb hXs hbl hbA hS (z_in rfl (by omega) (by omega)) dL_law_821 ?_
        refine lq_top (v := s5) (by rw [hs5]; exact congrArg xs (by rw [z_nat (x := x_288) rfl]; omega)) ?_
        have hFc := tw_free hF hS hA
        refine va_calli (va_runV (As := [.int s1, .int s2, .int s3, .int s4, .int s5]) (rest := []) ⟨hx, hb, hml, hown, hts⟩ (m_correct l dC dI ad av H.size a k tm_283 lm_283 ym_283 gm_283 v s1 s2 s3 s4 s5 hJ hW) (cwV 5 hts (gi_4 (im_law _ (List.mem_of_getElem? (i := 88) rfl)) (im_law _ (List.mem_of_getElem? (i := 89) rfl)) (im_law _ (List.mem_of_getElem? (i := 90) rfl)) (im_law _ (List.mem_of_getElem? (i := 7) rfl)) im_m_correct gd_m_correct) rfl rfl rfl (by decide +kernel) ⟨Nat.le_of_ble_eq_true rfl, Nat.le_of_ble_eq_true rfl⟩) ⟨pw_blind, tw_recv hK hT (fx_50 hX) (by decide) cl_e60 rfl, pw_use hT hK hFc hS hM⟩ rfl rfl hl.1 rfl (lv_room (Nat.le_of_ble_eq_true rfl)) dL_law_822 ⟨by show 200 + 4 * q + 1 + 0 ≤ 601024; omega, by show 60000 + 100 * q + 6 + 0 ≤ 7293034; omega⟩) hS (fun q _ h => hFc q h) hFc (fun r0 r_289 t H locs ht hvm hw hB hz1 hk1 hS => ?_)
        clear hvm hz1 hk1
        subst hw
        have hIo := hI
        obtain ⟨um_290, ym_290, gm_290, hum_290, hgm_290, hggm_290, hJ, hT⟩ := hB
        rw [ht] at hT
        have hFo := hFo.m hIo hgm_290 (by decide) (hggm_290 (a 10) (by rw [fx_10 hX]; decide))
        have hI := hI.ag hgm_290 (by decide)
        have hI := hI.agg hggm_290
        have hW : IW (um_290 1) (um_290 2) (um_290 9) (ym_290 (a 89)) := by rw [hgm_290.at (fx_89 hX) (by decide)]; exact iw_u hW (hum_290 1 (by decide)) (hum_290 2 (by decide)) (hum_290 9 (by decide))
        have hTh : vb 38408 0 4800 (ym_290 (a 99)) := by rw [hgm_290.at (fx_99 hX) (by decide)]; exact hTh
        have : um_290 2 = v 2 := hum_290 2 (by decide)
        have : um_290 9 = v 9 := hum_290 9 (by decide)
        have : um_290 3 = v 3 := hum_290 3 (by decide)
        have : um_290 10 = v 10 := hum_290 10 (by decide)
        refine lv_pop hx hb dL_law_825 rfl ?_
        refine lv_goto (tgt := 1360) hx hb dL_law_826 (by decide) ?_
        obtain ⟨x_291, ex_291⟩ : ∃ y : Int32, y = i4 + Int32.ofInt 10 := ⟨_, rfl⟩
        have hx_291 := z_add ex_291 rfl (zk (x := Int32.ofInt 10) 10 rfl) (by omega) (by omega)
        refine lv_iinc (v := x_291) (lv' := [(4, .int x_291), (0, .ref b), (1, .ref (a 0)), (2, .ref (a 50)), (3, .ref (a 49))]) hx hb dL_law_1360 hl (k := 4) rfl ex_291.symm (by decide) rfl (fun ls hl => ?_)
        refine lv_goto (tgt := 23) hx hb dL_law_1363 (by decide) ?_
        refine W.widen (k := 200 + 4 * (q + 1)) (n := 60000 + 100 * (q + 1)) (by omega) (by omega) ?_
        exact ih (q + 1) x_291 tm_283 lm_283 ym_290 gm_290 um_283 um_290 H _ ls (by omega) hF hI hJ hW hTh hFo (by omega) (by omega) (by omega) (by omega) (by omega) hT hS (lv_sub hl [1, 2, 3, 4, 0] rfl)
      · refine lq_top (v := 15) t_5 ?_
        have nt_5 := z_eq rfl (zk (x := 15) 15 rfl) t_5
        refine lv_tableIn (tgt := 829) hx hb dL_law_40 (by decide) (by decide) (off := 789) (by decide) (by decide) ?_
        refine lv_aload_n hx hb dL_law_829 rfl (lv_at hl 1 rfl) ?_
        refine lv_aload_n hx hb dL_law_830 rfl (lv_at hl 0 rfl) ?_
        refine lv_iload hx hb dL_law_831 (lv_at hl 4 rfl) ?_
        refine lv_iconst (v := 1) hx hb dL_law_833 (by decide) ?_
        refine lv_iadd hx hb dL_law_834 ?_
        refine lv_topi (fun x_292 ex_292 => ?_)
        have hx_292 := z_add ex_292 rfl (zk (x := 1) 1 rfl) (by omega) (by omega)
        refine va_sld hx hb hXs hbl hbA hS (z_in rfl (by omega) (by omega)) dL_law_835 ?_
        refine lq_top (v := s1) (by rw [hs1]; exact congrArg xs (by rw [z_nat (x := x_292) rfl]; omega)) ?_
        refine lv_aload_n hx hb dL_law_836 rfl (lv_at hl 0 rfl) ?_
        refine lv_iload hx hb dL_law_837 (lv_at hl 4 rfl) ?_
        refine lv_iconst (v := 2) hx hb dL_law_839 (by decide) ?_
        refine lv_iadd hx hb dL_law_840 ?_
        refine lv_topi (fun x_293 ex_293 => ?_)
        have hx_293 := z_add ex_293 rfl (zk (x := 2) 2 rfl) (by omega) (by omega)
        refine va_sld hx hb hXs hbl hbA hS (z_in rfl (by omega) (by omega)) dL_law_841 ?_
        refine lq_top (v := s2) (by rw [hs2]; exact congrArg xs (by rw [z_nat (x := x_293) rfl]; omega)) ?_
        have hFc := tw_free hF hS hA
        refine va_calli (va_runV (As := [.int s1, .int s2]) (rest := []) ⟨hx, hb, hml, hown, hts⟩ (c_undo l dC dI ad av H.size a k τ ln y g u s1 s2 hI ) (cwV 2 hts (gi_4 (im_law _ (List.mem_of_getElem? (i := 91) rfl)) (im_law _ (List.mem_of_getElem? (i := 92) rfl)) (im_law _ (List.mem_of_getElem? (i := 93) rfl)) (im_law _ (List.mem_of_getElem? (i := 3) rfl)) im_c_undo gd_c_undo) rfl rfl rfl (by decide +kernel) ⟨Nat.le_of_ble_eq_true rfl, Nat.le_of_ble_eq_true rfl⟩) ⟨pw_blind, tw_recv hK hT (fx_0 hX) (by decide) cl_e10 rfl, pw_use hT hK hFc hS hM⟩ rfl rfl hl.1 rfl (lv_room (Nat.le_of_ble_eq_true rfl)) dL_law_842 ⟨by show 200 + 4 * q + 0 ≤ 601024; omega, by show 60000 + 100 * q + 0 ≤ 7293034; omega⟩) hS (fun q _ h => hFc q h) hFc (fun r0 r_294 t H locs ht hvm hw hB hz1 hk1 hS => ?_)
        clear hvm hz1 hk1
        subst hw
        have hIo := hI
        rcases hB with ⟨um_295, hre, hum_295, ⟨tm_295, lm_295, ym_295, gm_295, hMo, hKM, hI, hT⟩⟩ | ⟨um_296, hre, hum_296, ⟨tm_296, lm_296, ym_296, gm_296, hMo, hKM, hI, hT⟩⟩
        · refine lq_top (v := 1) hre ?_
          rw [ht] at hT
          have hF : ∀ q, tm_295 q ≠ 0 → s.heap.size ≤ q := fun q h => hFc q (hMo.2 q h)
          have hFo := hFo.kp hIo hKM (hum_295 1 (by decide)) (hum_295 2 (by decide)) (hum_295 9 (by decide))
          have hKM := hKM.to0
          have hJ := hJ.kp hKM hI.1
          have hW : IW (v 1) (v 2) (v 9) (ym_295 (a 89)) := by rw [hKM.fx hX (j := 89) (by decide) (by decide)]; exact hW
          have hTh : vb 38408 0 4800 (ym_295 (a 99)) := by rw [hKM.fx hX (j := 99) (by decide) (by decide)]; exact hTh
          have hX := hI.1
          have : um_295 2 = u 2 := hum_295 2 (by decide)
          have : um_295 9 = u 9 := hum_295 9 (by decide)
          refine lv_pop hx hb dL_law_845 rfl ?_
          refine lv_aload_n hx hb dL_law_846 rfl (lv_at hl 2 rfl) ?_
          refine lv_aload_n hx hb dL_law_847 rfl (lv_at hl 0 rfl) ?_
          refine lv_iload hx hb dL_law_848 (lv_at hl 4 rfl) ?_
          refine lv_iconst (v := 1) hx hb dL_law_850 (by decide) ?_
          refine lv_iadd hx hb dL_law_851 ?_
          refine lv_topi (fun x_297 ex_297 => ?_)
          have hx_297 := z_add ex_297 rfl (zk (x := 1) 1 rfl) (by omega) (by omega)
          refine va_sld hx hb hXs hbl hbA hS (z_in rfl (by omega) (by omega)) dL_law_852 ?_
          refine lq_top (v := s1) (by rw [hs1]; exact congrArg xs (by rw [z_nat (x := x_297) rfl]; omega)) ?_
          refine lv_aload_n hx hb dL_law_853 rfl (lv_at hl 0 rfl) ?_
          refine lv_iload hx hb dL_law_854 (lv_at hl 4 rfl) ?_
          refine lv_iconst (v := 2) hx hb dL_law_856 (by decide) ?_
          refine lv_iadd hx hb dL_law_857 ?_
          refine lv_topi (fun x_298 ex_298 => ?_)
          have hx_298 := z_add ex_298 rfl (zk (x := 2) 2 rfl) (by omega) (by omega)
          refine va_sld hx hb hXs hbl hbA hS (z_in rfl (by omega) (by omega)) dL_law_858 ?_
          refine lq_top (v := s2) (by rw [hs2]; exact congrArg xs (by rw [z_nat (x := x_298) rfl]; omega)) ?_
          have hFc := tw_free hF hS hA
          refine va_calli (va_runV (As := [.int s1, .int s2]) (rest := []) ⟨hx, hb, hml, hown, hts⟩ (m_undo l dC dI ad av H.size a k tm_295 lm_295 ym_295 gm_295 v s1 s2 hJ hW) (cwV 2 hts (gi_4 (im_law _ (List.mem_of_getElem? (i := 94) rfl)) (im_law _ (List.mem_of_getElem? (i := 95) rfl)) (im_law _ (List.mem_of_getElem? (i := 96) rfl)) (im_law _ (List.mem_of_getElem? (i := 7) rfl)) im_m_undo gd_m_undo) rfl rfl rfl (by decide +kernel) ⟨Nat.le_of_ble_eq_true rfl, Nat.le_of_ble_eq_true rfl⟩) ⟨pw_blind, tw_recv hK hT (fx_50 hX) (by decide) cl_e60 rfl, pw_use hT hK hFc hS hM⟩ rfl rfl hl.1 rfl (lv_room (Nat.le_of_ble_eq_true rfl)) dL_law_859 ⟨by show 200 + 4 * q + 0 + 0 ≤ 601024; omega, by show 60000 + 100 * q + 0 + 0 ≤ 7293034; omega⟩) hS (fun q _ h => hFc q h) hFc (fun r0 r_299 t H locs ht hvm hw hB hz1 hk1 hS => ?_)
          clear hvm hz1 hk1
          subst hw
          have hIo := hI
          rcases hB with ⟨ym_300, gm_300, hre, hgm_300, hggm_300, hJ, hT⟩ | ⟨ym_301, gm_301, hre, hgm_301, hggm_301, hJ, hT⟩
          · refine lq_top (v := 1) hre ?_
            rw [ht] at hT
            have hFo := hFo.m hIo hgm_300 (by decide) (hggm_300 (a 10) (by rw [fx_10 hX]; decide))
            have hI := hI.ag hgm_300 (by decide)
            have hI := hI.agg hggm_300
            have hW : IW (v 1) (v 2) (v 9) (ym_300 (a 89)) := by rw [hgm_300.at (fx_89 hX) (by decide)]; exact hW
            have hTh : vb 38408 0 4800 (ym_300 (a 99)) := by rw [hgm_300.at (fx_99 hX) (by decide)]; exact hTh
            refine lv_pop hx hb dL_law_862 rfl ?_
            refine lv_goto (tgt := 1360) hx hb dL_law_863 (by decide) ?_
            obtain ⟨x_302, ex_302⟩ : ∃ y : Int32, y = i4 + Int32.ofInt 10 := ⟨_, rfl⟩
            have hx_302 := z_add ex_302 rfl (zk (x := Int32.ofInt 10) 10 rfl) (by omega) (by omega)
            refine lv_iinc (v := x_302) (lv' := [(4, .int x_302), (0, .ref b), (1, .ref (a 0)), (2, .ref (a 50)), (3, .ref (a 49))]) hx hb dL_law_1360 hl (k := 4) rfl ex_302.symm (by decide) rfl (fun ls hl => ?_)
            refine lv_goto (tgt := 23) hx hb dL_law_1363 (by decide) ?_
            refine W.widen (k := 200 + 4 * (q + 1)) (n := 60000 + 100 * (q + 1)) (by omega) (by omega) ?_
            exact ih (q + 1) x_302 tm_295 lm_295 ym_300 gm_300 um_295 v H _ ls (by omega) hF hI hJ hW hTh hFo (by omega) (by omega) (by omega) (by omega) (by omega) hT hS (lv_sub hl [1, 2, 3, 4, 0] rfl)
          · refine lq_top (v := 0) hre ?_
            rw [ht] at hT
            have hFo := hFo.m hIo hgm_301 (by decide) (hggm_301 (a 10) (by rw [fx_10 hX]; decide))
            have hI := hI.ag hgm_301 (by decide)
            have hI := hI.agg hggm_301
            have hW : IW (v 1) (v 2) (v 9) (ym_301 (a 89)) := by rw [hgm_301.at (fx_89 hX) (by decide)]; exact hW
            have hTh : vb 38408 0 4800 (ym_301 (a 99)) := by rw [hgm_301.at (fx_99 hX) (by decide)]; exact hTh
            refine lv_pop hx hb dL_law_862 rfl ?_
            refine lv_goto (tgt := 1360) hx hb dL_law_863 (by decide) ?_
            obtain ⟨x_303, ex_303⟩ : ∃ y : Int32, y = i4 + Int32.ofInt 10 := ⟨_, rfl⟩
            have hx_303 := z_add ex_303 rfl (zk (x := Int32.ofInt 10) 10 rfl) (by omega) (by omega)
            refine lv_iinc (v := x_303) (lv' := [(4, .int x_303), (0, .ref b), (1, .ref (a 0)), (2, .ref (a 50)), (3, .ref (a 49))]) hx hb dL_law_1360 hl (k := 4) rfl ex_303.symm (by decide) rfl (fun ls hl => ?_)
            refine lv_goto (tgt := 23) hx hb dL_law_1363 (by decide) ?_
            refine W.widen (k := 200 + 4 * (q + 1)) (n := 60000 + 100 * (q + 1)) (by omega) (by omega) ?_
            exact ih (q + 1) x_303 tm_295 lm_295 ym_301 gm_301 um_295 v H _ ls (by omega) hF hI hJ hW hTh hFo (by omega) (by omega) (by omega) (by omega) (by omega) hT hS (lv_sub hl [1, 2, 3, 4, 0] rfl)
        · refine lq_top (v := 0) hre ?_
          rw [ht] at hT
          have hF : ∀ q, tm_296 q ≠ 0 → s.heap.size ≤ q := fun q h => hFc q (hMo.2 q h)
          have hFo := hFo.kp hIo hKM (hum_296 1 (by decide)) (hum_296 2 (by decide)) (hum_296 9 (by decide))
          have hKM := hKM.to0
          have hJ := hJ.kp hKM hI.1
          have hW : IW (v 1) (v 2) (v 9) (ym_296 (a 89)) := by rw [hKM.fx hX (j := 89) (by decide) (by decide)]; exact hW
          have hTh : vb 38408 0 4800 (ym_296 (a 99)) := by rw [hKM.fx hX (j := 99) (by decide) (by decide)]; exact hTh
          have hX := hI.1
          have : um_296 2 = u 2 := hum_296 2 (by decide)
          have : um_296 9 = u 9 := hum_296 9 (by decide)
          refine lv_pop hx hb dL_law_845 rfl ?_
          refine lv_aload_n hx hb dL_law_846 rfl (lv_at hl 2 rfl) ?_
          refine lv_aload_n hx hb dL_law_847 rfl (lv_at hl 0 rfl) ?_
          refine lv_iload hx hb dL_law_848 (lv_at hl 4 rfl) ?_
          refine lv_iconst (v := 1) hx hb dL_law_850 (by decide) ?_
          refine lv_iadd hx hb dL_law_851 ?_
          refine lv_topi (fun x_304 ex_304 => ?_)
          have hx_304 := z_add ex_304 rfl (zk (x := 1) 1 rfl) (by omega) (by omega)
          refine va_sld hx hb hXs hbl hbA hS (z_in rfl (by omega) (by omega)) dL_law_852 ?_
          refine lq_top (v := s1) (by rw [hs1]; exact congrArg xs (by rw [z_nat (x := x_304) rfl]; omega)) ?_
          refine lv_aload_n hx hb dL_law_853 rfl (lv_at hl 0 rfl) ?_
          refine lv_iload hx hb dL_law_854 (lv_at hl 4 rfl) ?_
          refine lv_iconst (v := 2) hx hb dL_law_856 (by decide) ?_
          refine lv_iadd hx hb dL_law_857 ?_
          refine lv_topi (fun x_305 ex_305 => ?_)
          have hx_305 := z_add ex_305 rfl (zk (x := 2) 2 rfl) (by omega) (by omega)
          refine va_sld hx hb hXs hbl hbA hS (z_in rfl (by omega) (by omega)) dL_law_858 ?_
          refine lq_top (v := s2) (by rw [hs2]; exact congrArg xs (by rw [z_nat (x := x_305) rfl]; omega)) ?_
          have hFc := tw_free hF hS hA
          refine va_calli (va_runV (As := [.int s1, .int s2]) (rest := []) ⟨hx, hb, hml, hown, hts⟩ (m_undo l dC dI ad av H.size a k tm_296 lm_296 ym_296 gm_296 v s1 s2 hJ hW) (cwV 2 hts (gi_4 (im_law _ (List.mem_of_getElem? (i := 94) rfl)) (im_law _ (List.mem_of_getElem? (i := 95) rfl)) (im_law _ (List.mem_of_getElem? (i := 96) rfl)) (im_law _ (List.mem_of_getElem? (i := 7) rfl)) im_m_undo gd_m_undo) rfl rfl rfl (by decide +kernel) ⟨Nat.le_of_ble_eq_true rfl, Nat.le_of_ble_eq_true rfl⟩) ⟨pw_blind, tw_recv hK hT (fx_50 hX) (by decide) cl_e60 rfl, pw_use hT hK hFc hS hM⟩ rfl rfl hl.1 rfl (lv_room (Nat.le_of_ble_eq_true rfl)) dL_law_859 ⟨by show 200 + 4 * q + 0 + 0 ≤ 601024; omega, by show 60000 + 100 * q + 0 + 0 ≤ 7293034; omega⟩) hS (fun q _ h => hFc q h) hFc (fun r0 r_306 t H locs ht hvm hw hB hz1 hk1 hS => ?_)
          clear hvm hz1 hk1
          subst hw
          have hIo := hI
          rcases hB with ⟨ym_307, gm_307, hre, hgm_307, hggm_307, hJ, hT⟩ | ⟨ym_308, gm_308, hre, hgm_308, hggm_308, hJ, hT⟩
          · refine lq_top (v := 1) hre ?_
            rw [ht] at hT
            have hFo := hFo.m hIo hgm_307 (by decide) (hggm_307 (a 10) (by rw [fx_10 hX]; decide))
            have hI := hI.ag hgm_307 (by decide)
            have hI := hI.agg hggm_307
            have hW : IW (v 1) (v 2) (v 9) (ym_307 (a 89)) := by rw [hgm_307.at (fx_89 hX) (by decide)]; exact hW
            have hTh : vb 38408 0 4800 (ym_307 (a 99)) := by rw [hgm_307.at (fx_99 hX) (by decide)]; exact hTh
            refine lv_pop hx hb dL_law_862 rfl ?_
            refine lv_goto (tgt := 1360) hx hb dL_law_863 (by decide) ?_
            obtain ⟨x_309, ex_309⟩ : ∃ y : Int32, y = i4 + Int32.ofInt 10 := ⟨_, rfl⟩
            have hx_309 := z_add ex_309 rfl (zk (x := Int32.ofInt 10) 10 rfl) (by omega) (by omega)
            refine lv_iinc (v := x_309) (lv' := [(4, .int x_309), (0, .ref b), (1, .ref (a 0)), (2, .ref (a 50)), (3, .ref (a 49))]) hx hb dL_law_1360 hl (k := 4) rfl ex_309.symm (by decide) rfl (fun ls hl => ?_)
            refine lv_goto (tgt := 23) hx hb dL_law_1363 (by decide) ?_
            refine W.widen (k := 200 + 4 * (q + 1)) (n := 60000 + 100 * (q + 1)) (by omega) (by omega) ?_
            exact ih (q + 1) x_309 tm_296 lm_296 ym_307 gm_307 um_296 v H _ ls (by omega) hF hI hJ hW hTh hFo (by omega) (by omega) (by omega) (by omega) (by omega) hT hS (lv_sub hl [1, 2, 3, 4, 0] rfl)
          · refine lq_top (v := 0) hre ?_
            rw [ht] at hT
            have hFo := hFo.m hIo hgm_308 (by decide) (hggm_308 (a 10) (by rw [fx_10 hX]; decide))
            have hI := hI.ag hgm_308 (by decide)
            have hI := hI.agg hggm_308
            have hW : IW (v 1) (v 2) (v 9) (ym_308 (a 89)) := by rw [hgm_308.at (fx_89 hX) (by decide)]; exact hW
            have hTh : vb 38408 0 4800 (ym_308 (a 99)) := by rw [hgm_308.at (fx_99 hX) (by decide)]; exact hTh
            refine lv_pop hx hb dL_law_862 rfl ?_
            refine lv_goto (tgt := 1360) hx hb dL_law_863 (by decide) ?_
            obtain ⟨x_310, ex_310⟩ : ∃ y : Int32, y = i4 + Int32.ofInt 10 := ⟨_, rfl⟩
            have hx_310 := z_add ex_310 rfl (zk (x := Int32.ofInt 10) 10 rfl) (by omega) (by omega)
            refine lv_iinc (v := x_310) (lv' := [(4, .int x_310), (0, .ref b), (1, .ref (a 0)), (2, .ref (a 50)), (3, .ref (a 49))]) hx hb dL_law_1360 hl (k := 4) rfl ex_310.symm (by decide) rfl (fun ls hl => ?_)
            refine lv_goto (tgt := 23) hx hb dL_law_1363 (by decide) ?_
            refine W.widen (k := 200 + 4 * (q + 1)) (n := 60000 + 100 * (q + 1)) (by omega) (by omega) ?_
            exact ih (q + 1) x_310 tm_296 lm_296 ym_308 gm_308 um_296 v H _ ls (by omega) hF hI hJ hW hTh hFo (by omega) (by omega) (by omega) (by omega) (by omega) hT hS (lv_sub hl [1, 2, 3, 4, 0] rfl)
      · refine lq_top (v := 16) t_5 ?_
        have nt_5 := z_eq rfl (zk (x := 16) 16 rfl) t_5
        refine lv_tableIn (tgt := 866) hx hb dL_law_40 (by decide) (by decide) (off := 826) (by decide) (by decide) ?_
        refine lv_aload_n hx hb dL_law_866 rfl (lv_at hl 1 rfl) ?_
        refine lv_aload_n hx hb dL_law_867 rfl (lv_at hl 0 rfl) ?_
        refine lv_iload hx hb dL_law_868 (lv_at hl 4 rfl) ?_
        refine lv_iconst (v := 1) hx hb dL_law_870 (by decide) ?_
        refine lv_iadd hx hb dL_law_871 ?_
        refine lv_topi (fun x_311 ex_311 => ?_)
        have hx_311 := z_add ex_311 rfl (zk (x := 1) 1 rfl) (by omega) (by omega)
        refine va_sld hx hb hXs hbl hbA hS (z_in rfl (by omega) (by omega)) dL_law_872 ?_
        refine lq_top (v := s1) (by rw [hs1]; exact congrArg xs (by rw [z_nat (x := x_311) rfl]; omega)) ?_
        have hFc := tw_free hF hS hA
        refine va_calli (va_runV (As := [.int s1]) (rest := []) ⟨hx, hb, hml, hown, hts⟩ (c_as l dC dI ad av H.size a k τ ln y g u s1 hI ) (cwV 1 hts (gi_4 (im_law _ (List.mem_of_getElem? (i := 97) rfl)) (im_law _ (List.mem_of_getElem? (i := 98) rfl)) (im_law _ (List.mem_of_getElem? (i := 99) rfl)) (im_law _ (List.mem_of_getElem? (i := 3) rfl)) im_c_as gd_c_as) rfl rfl rfl (by decide +kernel) ⟨Nat.le_of_ble_eq_true rfl, Nat.le_of_ble_eq_true rfl⟩) ⟨pw_blind, tw_recv hK hT (fx_0 hX) (by decide) cl_e10 rfl, pw_use hT hK hFc hS hM⟩ rfl rfl hl.1 rfl (lv_room (Nat.le_of_ble_eq_true rfl)) dL_law_873 ⟨by show 200 + 4 * q + 0 ≤ 601024; omega, by show 60000 + 100 * q + 0 ≤ 7293034; omega⟩) hS (fun q _ h => hFc q h) hFc (fun r0 r_312 t H locs ht hvm hw hB hz1 hk1 hS => ?_)
        clear hvm hz1 hk1
        subst hw
        have hIo := hI
        rcases hB with ⟨um_313, hre, hum_313, hf_314, ⟨tm_313, lm_313, ym_313, gm_313, hMo, hKM, hI, hT⟩⟩ | ⟨um_315, hum_315, hf_316, hf_317, hf_318, ⟨tm_315, lm_315, ym_315, gm_315, hMo, hKM, hI, hT⟩⟩
        · refine lq_top (v := (-1)) hre ?_
          rw [ht] at hT
          have hF : ∀ q, tm_313 q ≠ 0 → s.heap.size ≤ q := fun q h => hFc q (hMo.2 q h)
          have hFo := hFo.kp hIo hKM (hum_313 1 (by decide)) (hum_313 2 (by decide)) (hum_313 9 (by decide))
          have hKM := hKM.to0
          have hJ := hJ.kp hKM hI.1
          have hW : IW (v 1) (v 2) (v 9) (ym_313 (a 89)) := by rw [hKM.fx hX (j := 89) (by decide) (by decide)]; exact hW
          have hTh : vb 38408 0 4800 (ym_313 (a 99)) := by rw [hKM.fx hX (j := 99) (by decide) (by decide)]; exact hTh
          have hX := hI.1
          have : um_313 2 = u 2 := hum_313 2 (by decide)
          have : um_313 9 = u 9 := hum_313 9 (by decide)
          refine lv_pop hx hb dL_law_876 rfl ?_
          refine lv_aload_n hx hb dL_law_877 rfl (lv_at hl 2 rfl) ?_
          refine lv_aload_n hx hb dL_law_878 rfl (lv_at hl 0 rfl) ?_
          refine lv_iload hx hb dL_law_879 (lv_at hl 4 rfl) ?_
          refine lv_iconst (v := 1) hx hb dL_law_881 (by decide) ?_
          refine lv_iadd hx hb dL_law_882 ?_
          refine lv_topi (fun x_319 ex_319 => ?_)
          have hx_319 := z_add ex_319 rfl (zk (x := 1) 1 rfl) (by omega) (by omega)
          refine va_sld hx hb hXs hbl hbA hS (z_in rfl (by omega) (by omega)) dL_law_883 ?_
          refine lq_top (v := s1) (by rw [hs1]; exact congrArg xs (by rw [z_nat (x := x_319) rfl]; omega)) ?_
          have hFc := tw_free hF hS hA
          refine va_calli (va_runV (As := [.int s1]) (rest := []) ⟨hx, hb, hml, hown, hts⟩ (m_as l dC dI ad av H.size a k tm_313 lm_313 ym_313 gm_313 v s1 hJ hW) (cwV 1 hts (gi_4 (im_law _ (List.mem_of_getElem? (i := 100) rfl)) (im_law _ (List.mem_of_getElem? (i := 101) rfl)) (im_law _ (List.mem_of_getElem? (i := 102) rfl)) (im_law _ (List.mem_of_getElem? (i := 7) rfl)) im_m_as gd_m_as) rfl rfl rfl (by decide +kernel) ⟨Nat.le_of_ble_eq_true rfl, Nat.le_of_ble_eq_true rfl⟩) ⟨pw_blind, tw_recv hK hT (fx_50 hX) (by decide) cl_e60 rfl, pw_use hT hK hFc hS hM⟩ rfl rfl hl.1 rfl (lv_room (Nat.le_of_ble_eq_true rfl)) dL_law_884 ⟨by show 200 + 4 * q + 0 + 0 ≤ 601024; omega, by show 60000 + 100 * q + 0 + 0 ≤ 7293034; omega⟩) hS (fun q _ h => hFc q h) hFc (fun r0 r_320 t H locs ht hvm hw hB hz1 hk1 hS => ?_)
          clear hvm hz1 hk1
          subst hw
          have hIo := hI
          rcases hB with ⟨um_321, ym_321, gm_321, hre, hum_321, hgm_321, hggm_321, hJ, hf_322, hf_323, hT⟩ | ⟨um_324, ym_324, gm_324, hum_324, hgm_324, hggm_324, hJ, hf_325, hf_326, hf_327, hT⟩
          · refine lq_top (v := (-1)) hre ?_
            rw [ht] at hT
            have hFo := hFo.m hIo hgm_321 (by decide) (hggm_321 (a 10) (by rw [fx_10 hX]; decide))
            have hI := hI.ag hgm_321 (by decide)
            have hI := hI.agg hggm_321
            have hW : IW (um_321 1) (um_321 2) (um_321 9) (ym_321 (a 89)) := by rw [hgm_321.at (fx_89 hX) (by decide)]; exact iw_u hW (hum_321 1 (by decide)) (hum_321 2 (by decide)) (hum_321 9 (by decide))
            have hTh : vb 38408 0 4800 (ym_321 (a 99)) := by rw [hgm_321.at (fx_99 hX) (by decide)]; exact hTh
            have : um_321 2 = v 2 := hum_321 2 (by decide)
            have : um_321 9 = v 9 := hum_321 9 (by decide)
            have : um_321 3 = v 3 := hum_321 3 (by decide)
            have : um_321 10 = v 10 := hum_321 10 (by decide)
            refine lv_pop hx hb dL_law_887 rfl ?_
            refine lv_goto (tgt := 1360) hx hb dL_law_888 (by decide) ?_
            obtain ⟨x_328, ex_328⟩ : ∃ y : Int32, y = i4 + Int32.ofInt 10 := ⟨_, rfl⟩
            have hx_328 := z_add ex_328 rfl (zk (x := Int32.ofInt 10) 10 rfl) (by omega) (by omega)
            refine lv_iinc (v := x_328) (lv' := [(4, .int x_328), (0, .ref b), (1, .ref (a 0)), (2, .ref (a 50)), (3, .ref (a 49))]) hx hb dL_law_1360 hl (k := 4) rfl ex_328.symm (by decide) rfl (fun ls hl => ?_)
            refine lv_goto (tgt := 23) hx hb dL_law_1363 (by decide) ?_
            refine W.widen (k := 200 + 4 * (q + 1)) (n := 60000 + 100 * (q + 1)) (by omega) (by omega) ?_
            exact ih (q + 1) x_328 tm_313 lm_313 ym_321 gm_321 um_313 um_321 H _ ls (by omega) hF hI hJ hW hTh hFo (by omega) (by omega) (by omega) (by omega) (by omega) hT hS (lv_sub hl [1, 2, 3, 4, 0] rfl)
          · rw [ht] at hT
            have hFo := hFo.m hIo hgm_324 (by decide) (hggm_324 (a 10) (by rw [fx_10 hX]; decide))
            have hI := hI.ag hgm_324 (by decide)
            have hI := hI.agg hggm_324
            have hW : IW (um_324 1) (um_324 2) (um_324 9) (ym_324 (a 89)) := by rw [hgm_324.at (fx_89 hX) (by decide)]; exact iw_u hW (hum_324 1 (by decide)) (hum_324 2 (by decide)) (hum_324 9 (by decide))
            have hTh : vb 38408 0 4800 (ym_324 (a 99)) := by rw [hgm_324.at (fx_99 hX) (by decide)]; exact hTh
            have : um_324 2 = v 2 := hum_324 2 (by decide)
            have : um_324 9 = v 9 := hum_324 9 (by decide)
            have : um_324 3 = v 3 := hum_324 3 (by decide)
            have : um_324 10 = v 10 := hum_324 10 (by decide)
            refine lv_pop hx hb dL_law_887 rfl ?_
            refine lv_goto (tgt := 1360) hx hb dL_law_888 (by decide) ?_
            obtain ⟨x_329, ex_329⟩ : ∃ y : Int32, y = i4 + Int32.ofInt 10 := ⟨_, rfl⟩
            have hx_329 := z_add ex_329 rfl (zk (x := Int32.ofInt 10) 10 rfl) (by omega) (by omega)
            refine lv_iinc (v := x_329) (lv' := [(4, .int x_329), (0, .ref b), (1, .ref (a 0)), (2, .ref (a 50)), (3, .ref (a 49))]) hx hb dL_law_1360 hl (k := 4) rfl ex_329.symm (by decide) rfl (fun ls hl => ?_)
            refine lv_goto (tgt := 23) hx hb dL_law_1363 (by decide) ?_
            refine W.widen (k := 200 + 4 * (q + 1)) (n := 60000 + 100 * (q + 1)) (by omega) (by omega) ?_
            exact ih (q + 1) x_329 tm_313 lm_313 ym_324 gm_324 um_313 um_324 H _ ls (by omega) hF hI hJ hW hTh hFo (by omega) (by omega) (by omega) (by omega) (by omega) hT hS (lv_sub hl [1, 2, 3, 4, 0] rfl)
        · rw [ht] at hT
          have hF : ∀ q, tm_315 q ≠ 0 → s.heap.size ≤ q := fun q h => hFc q (hMo.2 q h)
          have hFo := hFo.kp hIo hKM (hum_315 1 (by decide)) (hum_315 2 (by decide)) (hum_315 9 (by decide))
          have hKM := hKM.to0
          have hJ := hJ.kp hKM hI.1
          have hW : IW (v 1) (v 2) (v 9) (ym_315 (a 89)) := by rw [hKM.fx hX (j := 89) (by decide) (by decide)]; exact hW
          have hTh : vb 38408 0 4800 (ym_315 (a 99)) := by rw [hKM.fx hX (j := 99) (by decide) (by decide)]; exact hTh
          have hX := hI.1
          have : um_315 2 = u 2 := hum_315 2 (by decide)
          have : um_315 9 = u 9 := hum_315 9 (by decide)
          refine lv_pop hx hb dL_law_876 rfl ?_
          refine lv_aload_n hx hb dL_law_877 rfl (lv_at hl 2 rfl) ?_
          refine lv_aload_n hx hb dL_law_878 rfl (lv_at hl 0 rfl) ?_
          refine lv_iload hx hb dL_law_879 (lv_at hl 4 rfl) ?_
          refine lv_iconst (v := 1) hx hb dL_law_881 (by decide) ?_
          refine lv_iadd hx hb dL_law_882 ?_
          refine lv_topi (fun x_330 ex_330 => ?_)
          have hx_330 := z_add ex_330 rfl (zk (x := 1) 1 rfl) (by omega) (by omega)
          refine va_sld hx hb hXs hbl hbA hS (z_in rfl (by omega) (by omega)) dL_law_883 ?_
          refine lq_top (v := s1) (by rw [hs1]; exact congrArg xs (by rw [z_nat (x := x_330) rfl]; omega)) ?_
          have hFc := tw_free hF hS hA
          refine va_calli (va_runV (As := [.int s1]) (rest := []) ⟨hx, hb, hml, hown, hts⟩ (m_as l dC dI ad av H.size a k tm_315 lm_315 ym_315 gm_315 v s1 hJ hW) (cwV 1 hts (gi_4 (im_law _ (List.mem_of_getElem? (i := 100) rfl)) (im_law _ (List.mem_of_getElem? (i := 101) rfl)) (im_law _ (List.mem_of_getElem? (i := 102) rfl)) (im_law _ (List.mem_of_getElem? (i := 7) rfl)) im_m_as gd_m_as) rfl rfl rfl (by decide +kernel) ⟨Nat.le_of_ble_eq_true rfl, Nat.le_of_ble_eq_true rfl⟩) ⟨pw_blind, tw_recv hK hT (fx_50 hX) (by decide) cl_e60 rfl, pw_use hT hK hFc hS hM⟩ rfl rfl hl.1 rfl (lv_room (Nat.le_of_ble_eq_true rfl)) dL_law_884 ⟨by show 200 + 4 * q + 0 + 0 ≤ 601024; omega, by show 60000 + 100 * q + 0 + 0 ≤ 7293034; omega⟩) hS (fun q _ h => hFc q h) hFc (fun r0 r_331 t H locs ht hvm hw hB hz1 hk1 hS => ?_)
          clear hvm hz1 hk1
          subst hw
          have hIo := hI
          rcases hB with ⟨um_332, ym_332, gm_332, hre, hum_332, hgm_332, hggm_332, hJ, hf_333, hf_334, hT⟩ | ⟨um_335, ym_335, gm_335, hum_335, hgm_335, hggm_335, hJ, hf_336, hf_337, hf_338, hT⟩
          · refine lq_top (v := (-1)) hre ?_
            rw [ht] at hT
            have hFo := hFo.m hIo hgm_332 (by decide) (hggm_332 (a 10) (by rw [fx_10 hX]; decide))
            have hI := hI.ag hgm_332 (by decide)
            have hI := hI.agg hggm_332
            have hW : IW (um_332 1) (um_332 2) (um_332 9) (ym_332 (a 89)) := by rw [hgm_332.at (fx_89 hX) (by decide)]; exact iw_u hW (hum_332 1 (by decide)) (hum_332 2 (by decide)) (hum_332 9 (by decide))
            have hTh : vb 38408 0 4800 (ym_332 (a 99)) := by rw [hgm_332.at (fx_99 hX) (by decide)]; exact hTh
            have : um_332 2 = v 2 := hum_332 2 (by decide)
            have : um_332 9 = v 9 := hum_332 9 (by decide)
            have : um_332 3 = v 3 := hum_332 3 (by decide)
            have : um_332 10 = v 10 := hum_332 10 (by decide)
            refine lv_pop hx hb dL_law_887 rfl ?_
            refine lv_goto (tgt := 1360) hx hb dL_law_888 (by decide) ?_
            obtain ⟨x_339, ex_339⟩ : ∃ y : Int32, y = i4 + Int32.ofInt 10 := ⟨_, rfl⟩
            have hx_339 := z_add ex_339 rfl (zk (x := Int32.ofInt 10) 10 rfl) (by omega) (by omega)
            refine lv_iinc (v := x_339) (lv' := [(4, .int x_339), (0, .ref b), (1, .ref (a 0)), (2, .ref (a 50)), (3, .ref (a 49))]) hx hb dL_law_1360 hl (k := 4) rfl ex_339.symm (by decide) rfl (fun ls hl => ?_)
            refine lv_goto (tgt := 23) hx hb dL_law_1363 (by decide) ?_
            refine W.widen (k := 200 + 4 * (q + 1)) (n := 60000 + 100 * (q + 1)) (by omega) (by omega) ?_
            exact ih (q + 1) x_339 tm_315 lm_315 ym_332 gm_332 um_315 um_332 H _ ls (by omega) hF hI hJ hW hTh hFo (by omega) (by omega) (by omega) (by omega) (by omega) hT hS (lv_sub hl [1, 2, 3, 4, 0] rfl)
          · rw [ht] at hT
            have hFo := hFo.m hIo hgm_335 (by decide) (hggm_335 (a 10) (by rw [fx_10 hX]; decide))
            have hI := hI.ag hgm_335 (by decide)
            have hI := hI.agg hggm_335
            have hW : IW (um_335 1) (um_335 2) (um_335 9) (ym_335 (a 89)) := by rw [hgm_335.at (fx_89 hX) (by decide)]; exact iw_u hW (hum_335 1 (by decide)) (hum_335 2 (by decide)) (hum_335 9 (by decide))
            have hTh : vb 38408 0 4800 (ym_335 (a 99)) := by rw [hgm_335.at (fx_99 hX) (by decide)]; exact hTh
            have : um_335 2 = v 2 := hum_335 2 (by decide)
            have : um_335 9 = v 9 := hum_335 9 (by decide)
            have : um_335 3 = v 3 := hum_335 3 (by decide)
            have : um_335 10 = v 10 := hum_335 10 (by decide)
            refine lv_pop hx hb dL_law_887 rfl ?_
            refine lv_goto (tgt := 1360) hx hb dL_law_888 (by decide) ?_
            obtain ⟨x_340, ex_340⟩ : ∃ y : Int32, y = i4 + Int32.ofInt 10 := ⟨_, rfl⟩
            have hx_340 := z_add ex_340 rfl (zk (x := Int32.ofInt 10) 10 rfl) (by omega) (by omega)
            refine lv_iinc (v := x_340) (lv' := [(4, .int x_340), (0, .ref b), (1, .ref (a 0)), (2, .ref (a 50)), (3, .ref (a 49))]) hx hb dL_law_1360 hl (k := 4) rfl ex_340.symm (by decide) rfl (fun ls hl => ?_)
            refine lv_goto (tgt := 23) hx hb dL_law_1363 (by decide) ?_
            refine W.widen (k := 200 + 4 * (q + 1)) (n := 60000 + 100 * (q + 1)) (by omega) (by omega) ?_
            exact ih (q + 1) x_340 tm_315 lm_315 ym_335 gm_335 um_315 um_335 H _ ls (by omega) hF hI hJ hW hTh hFo (by omega) (by omega) (by omega) (by omega) (by omega) hT hS (lv_sub hl [1, 2, 3, 4, 0] rfl)
      · refine lq_top (v := 17) t_5 ?_
        have nt_5 := z_eq rfl (zk (x := 17) 17 rfl) t_5
        refine lv_tableIn (tgt := 891) hx hb dL_law_40 (by decide) (by decide) (off := 851) (by decide) (by decide) ?_
        refine lv_aload_n hx hb dL_law_891 rfl (lv_at hl 1 rfl) ?_
        refine lv_aload_n hx hb dL_law_892 rfl (lv_at hl 0 rfl) ?_
        refine lv_iload hx hb dL_law_893 (lv_at hl 4 rfl) ?_
        refine lv_iconst (v := 1) hx hb dL_law_895 (by decide) ?_
        refine lv_iadd hx hb dL_law_896 ?_
        refine lv_topi (fun x_341 ex_341 => ?_)
        have hx_341 := z_add ex_341 rfl (zk (x := 1) 1 rfl) (by omega) (by omega)
        refine va_sld hx hb hXs hbl hbA hS (z_in rfl (by omega) (by omega)) dL_law_897 ?_
        refine lq_top (v := s1) (by rw [hs1]; exact congrArg xs (by rw [z_nat (x := x_341) rfl]; omega)) ?_
        have hFc := tw_free hF hS hA
        refine va_calli (va_runV (As := [.int s1]) (rest := []) ⟨hx, hb, hml, hown, hts⟩ (c_fault l dC dI ad av H.size a k τ ln y g u s1 hI ) (cwV 1 hts (gi_4 (im_law _ (List.mem_of_getElem? (i := 103) rfl)) (im_law _ (List.mem_of_getElem? (i := 104) rfl)) (im_law _ (List.mem_of_getElem? (i := 105) rfl)) (im_law _ (List.mem_of_getElem? (i := 3) rfl)) im_c_fault gd_c_fault) rfl rfl rfl (by decide +kernel) ⟨Nat.le_of_ble_eq_true rfl, Nat.le_of_ble_eq_true rfl⟩) ⟨pw_blind, tw_recv hK hT (fx_0 hX) (by decide) cl_e10 rfl, pw_use hT hK hFc hS hM⟩ rfl rfl hl.1 rfl (lv_room (Nat.le_of_ble_eq_true rfl)) dL_law_898 ⟨by show 200 + 4 * q + 0 ≤ 601024; omega, by show 60000 + 100 * q + 0 ≤ 7293034; omega⟩) hS (fun q _ h => hFc q h) hFc (fun r0 r_342 t H locs ht hvm hw hB hz1 hk1 hS => ?_)
        clear hvm hz1 hk1
        subst hw
        have hIo := hI
        obtain ⟨um_343, hum_343, ⟨tm_343, lm_343, ym_343, gm_343, hMo, hKM, hI, hT⟩⟩ := hB
        rw [ht] at hT
        have hF : ∀ q, tm_343 q ≠ 0 → s.heap.size ≤ q := fun q h => hFc q (hMo.2 q h)
        have hFo := hFo.kp hIo hKM (hum_343 1 (by decide)) (hum_343 2 (by decide)) (hum_343 9 (by decide))
        have hKM := hKM.to0
        have hJ := hJ.kp hKM hI.1
        have hW : IW (v 1) (v 2) (v 9) (ym_343 (a 89)) := by rw [hKM.fx hX (j := 89) (by decide) (by decide)]; exact hW
        have hTh : vb 38408 0 4800 (ym_343 (a 99)) := by rw [hKM.fx hX (j := 99) (by decide) (by decide)]; exact hTh
        have hX := hI.1
        have : um_343 2 = u 2 := hum_343 2 (by decide)
        have : um_343 9 = u 9 := hum_343 9 (by decide)
        refine lv_pop hx hb dL_law_901 rfl ?_
        refine lv_aload_n hx hb dL_law_902 rfl (lv_at hl 2 rfl) ?_
        refine lv_aload_n hx hb dL_law_903 rfl (lv_at hl 0 rfl) ?_
        refine lv_iload hx hb dL_law_904 (lv_at hl 4 rfl) ?_
        refine lv_iconst (v := 1) hx hb dL_law_906 (by decide) ?_
        refine lv_iadd hx hb dL_law_907 ?_
        refine lv_topi (fun x_344 ex_344 => ?_)
        have hx_344 := z_add ex_344 rfl (zk (x := 1) 1 rfl) (by omega) (by omega)
        refine va_sld hx hb hXs hbl hbA hS (z_in rfl (by omega) (by omega)) dL_law_908 ?_
        refine lq_top (v := s1) (by rw [hs1]; exact congrArg xs (by rw [z_nat (x := x_344) rfl]; omega)) ?_
        have hFc := tw_free hF hS hA
        refine va_calli (va_runV (As := [.int s1]) (rest := []) ⟨hx, hb, hml, hown, hts⟩ (m_fault l dC dI ad av H.size a k tm_343 lm_343 ym_343 gm_343 v s1 hJ hW) (cwV 1 hts (gi_4 (im_law _ (List.mem_of_getElem? (i := 106) rfl)) (im_law _ (List.mem_of_getElem? (i := 107) rfl)) (im_law _ (List.mem_of_getElem? (i := 108) rfl)) (im_law _ (List.mem_of_getElem? (i := 7) rfl)) im_m_fault gd_m_fault) rfl rfl rfl (by decide +kernel) ⟨Nat.le_of_ble_eq_true rfl, Nat.le_of_ble_eq_true rfl⟩) ⟨pw_blind, tw_recv hK hT (fx_50 hX) (by decide) cl_e60 rfl, pw_use hT hK hFc hS hM⟩ rfl rfl hl.1 rfl (lv_room (Nat.le_of_ble_eq_true rfl)) dL_law_909 ⟨by show 200 + 4 * q + 0 + 0 ≤ 601024; omega, by show 60000 + 100 * q + 0 + 0 ≤ 7293034; omega⟩) hS (fun q _ h => hFc q h) hFc (fun r0 r_345 t H locs ht hvm hw hB hz1 hk1 hS => ?_)
        clear hvm hz1 hk1
        subst hw
        have hIo := hI
        obtain ⟨ym_346, gm_346, hgm_346, hggm_346, hJ, hT⟩ := hB
        rw [ht] at hT
        have hFo := hFo.m hIo hgm_346 (by decide) (hggm_346 (a 10) (by rw [fx_10 hX]; decide))
        have hI := hI.ag hgm_346 (by decide)
        have hI := hI.agg hggm_346
        have hW : IW (v 1) (v 2) (v 9) (ym_346 (a 89)) := by rw [hgm_346.at (fx_89 hX) (by decide)]; exact hW
        have hTh : vb 38408 0 4800 (ym_346 (a 99)) := by rw [hgm_346.at (fx_99 hX) (by decide)]; exact hTh
        refine lv_pop hx hb dL_law_912 rfl ?_
        refine lv_goto (tgt := 1360) hx hb dL_law_913 (by decide) ?_
        obtain ⟨x_347, ex_347⟩ : ∃ y : Int32, y = i4 + Int32.ofInt 10 := ⟨_, rfl⟩
        have hx_347 := z_add ex_347 rfl (zk (x := Int32.ofInt 10) 10 rfl) (by omega) (by omega)
        refine lv_iinc (v := x_347) (lv' := [(4, .int x_347), (0, .ref b), (1, .ref (a 0)), (2, .ref (a 50)), (3, .ref (a 49))]) hx hb dL_law_1360 hl (k := 4) rfl ex_347.symm (by decide) rfl (fun ls hl => ?_)
        refine lv_goto (tgt := 23) hx hb dL_law_1363 (by decide) ?_
        refine W.widen (k := 200 + 4 * (q + 1)) (n := 60000 + 100 * (q + 1)) (by omega) (by omega) ?_
        exact ih (q + 1) x_347 tm_343 lm_343 ym_346 gm_346 um_343 v H _ ls (by omega) hF hI hJ hW hTh hFo (by omega) (by omega) (by omega) (by omega) (by omega) hT hS (lv_sub hl [1, 2, 3, 4, 0] rfl)
      · refine lq_top (v := 18) t_5 ?_
        have nt_5 := z_eq rfl (zk (x := 18) 18 rfl) t_5
        refine lv_tableIn (tgt := 916) hx hb dL_law_40 (by decide) (by decide) (off := 876) (by decide) (by decide) ?_
        refine lv_aload_n hx hb dL_law_916 rfl (lv_at hl 1 rfl) ?_
        refine lv_aload_n hx hb dL_law_917 rfl (lv_at hl 0 rfl) ?_
        refine lv_iload hx hb dL_law_918 (lv_at hl 4 rfl) ?_
        refine lv_iconst (v := 1) hx hb dL_law_920 (by decide) ?_
        refine lv_iadd hx hb dL_law_921 ?_
        refine lv_topi (fun x_348 ex_348 => ?_)
        have hx_348 := z_add ex_348 rfl (zk (x := 1) 1 rfl) (by omega) (by omega)
        refine va_sld hx hb hXs hbl hbA hS (z_in rfl (by omega) (by omega)) dL_law_922 ?_
        refine lq_top (v := s1) (by rw [hs1]; exact congrArg xs (by rw [z_nat (x := x_348) rfl]; omega)) ?_
        refine lv_aload_n hx hb dL_law_923 rfl (lv_at hl 0 rfl) ?_
        refine lv_iload hx hb dL_law_924 (lv_at hl 4 rfl) ?_
        refine lv_iconst (v := 2) hx hb dL_law_926 (by decide) ?_
        refine lv_iadd hx hb dL_law_927 ?_
        refine lv_topi (fun x_349 ex_349 => ?_)
        have hx_349 := z_add ex_349 rfl (zk (x := 2) 2 rfl) (by omega) (by omega)
        refine va_sld hx hb hXs hbl hbA hS (z_in rfl (by omega) (by omega)) dL_law_928 ?_
        refine lq_top (v := s2) (by rw [hs2]; exact congrArg xs (by rw [z_nat (x := x_349) rfl]; omega)) ?_
        have hFc := tw_free hF hS hA
        refine va_calli (va_runV (As := [.int s1, .int s2]) (rest := []) ⟨hx, hb, hml, hown, hts⟩ (c_faults l dC dI ad av H.size a k τ ln y g u s1 s2 hI ) (cwV 2 hts (gi_4 (im_law _ (List.mem_of_getElem? (i := 109) rfl)) (im_law _ (List.mem_of_getElem? (i := 110) rfl)) (im_law _ (List.mem_of_getElem? (i := 111) rfl)) (im_law _ (List.mem_of_getElem? (i := 3) rfl)) im_c_faults gd_c_faults) rfl rfl rfl (by decide +kernel) ⟨Nat.le_of_ble_eq_true rfl, Nat.le_of_ble_eq_true rfl⟩) ⟨pw_blind, tw_recv hK hT (fx_0 hX) (by decide) cl_e10 rfl, pw_use hT hK hFc hS hM⟩ rfl rfl hl.1 rfl (lv_room (Nat.le_of_ble_eq_true rfl)) dL_law_929 ⟨by show 200 + 4 * q + 0 ≤ 601024; omega, by show 60000 + 100 * q + 0 ≤ 7293034; omega⟩) hS (fun q _ h => hFc q h) hFc (fun r0 r_350 t H locs ht hvm hw hB hz1 hk1 hS => ?_)
        clear hvm hz1 hk1
        subst hw
        have hIo := hI
        obtain ⟨um_351, hum_351, ⟨tm_351, lm_351, ym_351, gm_351, hMo, hKM, hI, hT⟩⟩ := hB
        rw [ht] at hT
        have hF : ∀ q, tm_351 q ≠ 0 → s.heap.size ≤ q := fun q h => hFc q (hMo.2 q h)
        have hFo := hFo.kp hIo hKM (hum_351 1 (by decide)) (hum_351 2 (by decide)) (hum_351 9 (by decide))
        have hKM := hKM.to0
        have hJ := hJ.kp hKM hI.1
        have hW : IW (v 1) (v 2) (v 9) (ym_351 (a 89)) := by rw [hKM.fx hX (j := 89) (by decide) (by decide)]; exact hW
        have hTh : vb 38408 0 4800 (ym_351 (a 99)) := by rw [hKM.fx hX (j := 99) (by decide) (by decide)]; exact hTh
        have hX := hI.1
        have : um_351 2 = u 2 := hum_351 2 (by decide)
        have : um_351 9 = u 9 := hum_351 9 (by decide)
        refine lv_pop hx hb dL_law_932 rfl ?_
        refine lv_aload_n hx hb dL_law_933 rfl (lv_at hl 2 rfl) ?_
        refine lv_aload_n hx hb dL_law_934 rfl (lv_at hl 0 rfl) ?_
        refine lv_iload hx hb dL_law_935 (lv_at hl 4 rfl) ?_
        refine lv_iconst (v := 1) hx hb dL_law_937 (by decide) ?_
        refine lv_iadd hx hb dL_law_938 ?_
        refine lv_topi (fun x_352 ex_352 => ?_)
        have hx_352 := z_add ex_352 rfl (zk (x := 1) 1 rfl) (by omega) (by omega)
        refine va_sld hx hb hXs hbl hbA hS (z_in rfl (by omega) (by omega)) dL_law_939 ?_
        refine lq_top (v := s1) (by rw [hs1]; exact congrArg xs (by rw [z_nat (x := x_352) rfl]; omega)) ?_
        refine lv_aload_n hx hb dL_law_940 rfl (lv_at hl 0 rfl) ?_
        refine lv_iload hx hb dL_law_941 (lv_at hl 4 rfl) ?_
        refine lv_iconst (v := 2) hx hb dL_law_943 (by decide) ?_
        refine lv_iadd hx hb dL_law_944 ?_
        refine lv_topi (fun x_353 ex_353 => ?_)
        have hx_353 := z_add ex_353 rfl (zk (x := 2) 2 rfl) (by omega) (by omega)
        refine va_sld hx hb hXs hbl hbA hS (z_in rfl (by omega) (by omega)) dL_law_945 ?_
        refine lq_top (v := s2) (by rw [hs2]; exact congrArg xs (by rw [z_nat (x := x_353) rfl]; omega)) ?_
        have hFc := tw_free hF hS hA
        refine va_calli (va_runV (As := [.int s1, .int s2]) (rest := []) ⟨hx, hb, hml, hown, hts⟩ (m_faults l dC dI ad av H.size a k tm_351 lm_351 ym_351 gm_351 v s1 s2 hJ hW) (cwV 2 hts (gi_4 (im_law _ (List.mem_of_getElem? (i := 112) rfl)) (im_law _ (List.mem_of_getElem? (i := 113) rfl)) (im_law _ (List.mem_of_getElem? (i := 114) rfl)) (im_law _ (List.mem_of_getElem? (i := 7) rfl)) im_m_faults gd_m_faults) rfl rfl rfl (by decide +kernel) ⟨Nat.le_of_ble_eq_true rfl, Nat.le_of_ble_eq_true rfl⟩) ⟨pw_blind, tw_recv hK hT (fx_50 hX) (by decide) cl_e60 rfl, pw_use hT hK hFc hS hM⟩ rfl rfl hl.1 rfl (lv_room (Nat.le_of_ble_eq_true rfl)) dL_law_946 ⟨by show 200 + 4 * q + 0 + 0 ≤ 601024; omega, by show 60000 + 100 * q + 0 + 0 ≤ 7293034; omega⟩) hS (fun q _ h => hFc q h) hFc (fun r0 r_354 t H locs ht hvm hw hB hz1 hk1 hS => ?_)
        clear hvm hz1 hk1
        subst hw
        have hIo := hI
        obtain ⟨ym_355, gm_355, hgm_355, hggm_355, hJ, hT⟩ := hB
        rw [ht] at hT
        have hFo := hFo.m hIo hgm_355 (by decide) (hggm_355 (a 10) (by rw [fx_10 hX]; decide))
        have hI := hI.ag hgm_355 (by decide)
        have hI := hI.agg hggm_355
        have hW : IW (v 1) (v 2) (v 9) (ym_355 (a 89)) := by rw [hgm_355.at (fx_89 hX) (by decide)]; exact hW
        have hTh : vb 38408 0 4800 (ym_355 (a 99)) := by rw [hgm_355.at (fx_99 hX) (by decide)]; exact hTh
        refine lv_pop hx hb dL_law_949 rfl ?_
        refine lv_goto (tgt := 1360) hx hb dL_law_950 (by decide) ?_
        obtain ⟨x_356, ex_356⟩ : ∃ y : Int32, y = i4 + Int32.ofInt 10 := ⟨_, rfl⟩
        have hx_356 := z_add ex_356 rfl (zk (x := Int32.ofInt 10) 10 rfl) (by omega) (by omega)
        refine lv_iinc (v := x_356) (lv' := [(4, .int x_356), (0, .ref b), (1, .ref (a 0)), (2, .ref (a 50)), (3, .ref (a 49))]) hx hb dL_law_1360 hl (k := 4) rfl ex_356.symm (by decide) rfl (fun ls hl => ?_)
        refine lv_goto (tgt := 23) hx hb dL_law_1363 (by decide) ?_
        refine W.widen (k := 200 + 4 * (q + 1)) (n := 60000 + 100 * (q + 1)) (by omega) (by omega) ?_
        exact ih (q + 1) x_356 tm_351 lm_351 ym_355 gm_355 um_351 v H _ ls (by omega) hF hI hJ hW hTh hFo (by omega) (by omega) (by omega) (by omega) (by omega) hT hS (lv_sub hl [1, 2, 3, 4, 0] rfl)
      · refine lq_top (v := 19) t_5 ?_
        have nt_5 := z_eq rfl (zk (x := 19) 19 rfl) t_5
        refine lv_tableIn (tgt := 953) hx hb dL_law_40 (by decide) (by decide) (off := 913) (by decide) (by decide) ?_
        refine lv_aload_n hx hb dL_law_953 rfl (lv_at hl 1 rfl) ?_
        refine lv_aload_n hx hb dL_law_954 rfl (lv_at hl 0 rfl) ?_
        refine lv_iload hx hb dL_law_955 (lv_at hl 4 rfl) ?_
        refine lv_iconst (v := 1) hx hb dL_law_957 (by decide) ?_
        refine lv_iadd hx hb dL_law_958 ?_
        refine lv_topi (fun x_357 ex_357 => ?_)
        have hx_357 := z_add ex_357 rfl (zk (x := 1) 1 rfl) (by omega) (by omega)
        refine va_sld hx hb hXs hbl hbA hS (z_in rfl (by omega) (by omega)) dL_law_959 ?_
        refine lq_top (v := s1) (by rw [hs1]; exact congrArg xs (by rw [z_nat (x := x_357) rfl]; omega)) ?_
        refine lv_aload_n hx hb dL_law_960 rfl (lv_at hl 3 rfl) ?_
        have hFc := tw_free hF hS hA
        refine va_calli (vx_runSW (As := [.ref (a 0), .int s1, .ref (a 49)]) (rest := []) ⟨hx, hb, hml, hown, hts⟩ (k_pay l hst dC dI ad av H.size a k τ ln y g u s1 hI ) (vx_cwSW 3 hts (gi_3 (im_law _ (List.mem_of_getElem? (i := 115) rfl)) (im_law _ (List.mem_of_getElem? (i := 116) rfl)) (im_law _ (List.mem_of_getElem? (i := 52) rfl)) im_k_pay gd_k_pay) rfl rfl rfl (by decide +kernel) ⟨Nat.le_of_ble_eq_true rfl, Nat.le_of_ble_eq_true rfl⟩) ⟨pw_blind, pw_use hT hK hFc hS hM⟩ rfl rfl hl.1 rfl (lv_room (Nat.le_of_ble_eq_true rfl)) dL_law_961 ⟨by show 200 + 4 * q + 1 ≤ 601024; omega, by show 60000 + 100 * q + 6 ≤ 7293034; omega⟩) hS (fun q _ h => hFc q h) hFc (fun r0 r_358 t H locs ht hvm hw hB hz1 hk1 hS => ?_)
        clear hvm hz1 hk1
        subst hw
        have hIo := hI
        obtain ⟨um_359, hum_359, ⟨tm_359, lm_359, ym_359, gm_359, hMo, hKM, hI, hT⟩⟩ := hB
        rw [ht] at hT
        have hF : ∀ q, tm_359 q ≠ 0 → s.heap.size ≤ q := fun q h => hFc q (hMo.2 q h)
        have hFo := hFo.kp hIo hKM (hum_359 1 (by decide)) (hum_359 2 (by decide)) (hum_359 9 (by decide))
        have hKM := hKM.to0
        have hJ := hJ.kp hKM hI.1
        have hW : IW (v 1) (v 2) (v 9) (ym_359 (a 89)) := by rw [hKM.fx hX (j := 89) (by decide) (by decide)]; exact hW
        have hTh : vb 38408 0 4800 (ym_359 (a 99)) := by rw [hKM.fx hX (j := 99) (by decide) (by decide)]; exact hTh
        have hX := hI.1
        have : um_359 2 = u 2 := hum_359 2 (by decide)
        have : um_359 9 = u 9 := hum_359 9 (by decide)
        refine lv_istore (lv' := [(5, .int r_358), (0, .ref b), (1, .ref (a 0)), (2, .ref (a 50)), (3, .ref (a 49)), (4, .int i4)]) hx hb dL_law_964 hl (by decide) rfl (fun ls hl => ?_)
        refine lv_aload_n hx hb dL_law_966 rfl (lv_at hl 3 rfl) ?_
        refine lv_aload_n hx hb dL_law_967 rfl (lv_at hl 1 rfl) ?_
        refine lv_iload hx hb dL_law_968 (lv_at hl 5 rfl) ?_
        refine lv_iconst (v := 1) hx hb dL_law_970 (by decide) ?_
        refine lv_iadd hx hb dL_law_971 ?_
        refine lv_topi (fun x_360 ex_360 => ?_)
        have hx_360 := z_add ex_360 rfl (zk (x := 1) 1 rfl) (by omega) (by omega)
        refine va_sld hx hb hXs hbl hbA hS (z_in rfl (by omega) (by omega)) dL_law_972 ?_
        refine lq_top (v := s1) (by rw [hs1]; exact congrArg xs (by rw [z_nat (x := x_360) rfl]; omega)) ?_
        have hFc := tw_free hF hS hA
        refine va_calli (va_runV (As := [.int s1]) (rest := []) ⟨hx, hb, hml, hown, hts⟩ (m_pay l dC dI ad av H.size a k tm_359 lm_359 ym_359 gm_359 v s1 hJ hW) (cwV 1 hts (gi_4 (im_law _ (List.mem_of_getElem? (i := 117) rfl)) (im_law _ (List.mem_of_getElem? (i := 118) rfl)) (im_law _ (List.mem_of_getElem? (i := 119) rfl)) (im_law _ (List.mem_of_getElem? (i := 7) rfl)) im_m_pay gd_m_pay) rfl rfl rfl (by decide +kernel) ⟨Nat.le_of_ble_eq_true rfl, Nat.le_of_ble_eq_true rfl⟩) ⟨pw_blind, tw_recv hK hT (fx_50 hX) (by decide) cl_e60 rfl, pw_use hT hK hFc hS hM⟩ rfl rfl hl.1 rfl (lv_room (Nat.le_of_ble_eq_true rfl)) dL_law_973 ⟨by show 200 + 4 * q + 1 + 0 ≤ 601024; omega, by show 60000 + 100 * q + 6 + 0 ≤ 7293034; omega⟩) hS (fun q _ h => hFc q h) hFc (fun r0 r_361 t H locs ht hvm hw hB hz1 hk1 hS => ?_)
        clear hvm hz1 hk1
        subst hw
        have hIo := hI
        obtain ⟨ym_362, gm_362, hgm_362, hggm_362, hJ, hT⟩ := hB
        rw [ht] at hT
        have hFo := hFo.m hIo hgm_362 (by decide) (hggm_362 (a 10) (by rw [fx_10 hX]; decide))
        have hI := hI.ag hgm_362 (by decide)
        have hI := hI.agg hggm_362
        have hW : IW (v 1) (v 2) (v 9) (ym_362 (a 89)) := by rw [hgm_362.at (fx_89 hX) (by decide)]; exact hW
        have hTh : vb 38408 0 4800 (ym_362 (a 99)) := by rw [hgm_362.at (fx_99 hX) (by decide)]; exact hTh
        refine lv_istore (lv' := [(6, .int r_361), (5, .int r_358), (0, .ref b), (1, .ref (a 0)), (2, .ref (a 50)), (3, .ref (a 49)), (4, .int i4)]) hx hb dL_law_976 hl (by decide) rfl (fun ls hl => ?_)
        refine lv_goto (tgt := 1360) hx hb dL_law_978 (by decide) ?_
        obtain ⟨x_363, ex_363⟩ : ∃ y : Int32, y = i4 + Int32.ofInt 10 := ⟨_, rfl⟩
        have hx_363 := z_add ex_363 rfl (zk (x := Int32.ofInt 10) 10 rfl) (by omega) (by omega)
        refine lv_iinc (v := x_363) (lv' := [(4, .int x_363), (6, .int r_361), (5, .int r_358), (0, .ref b), (1, .ref (a 0)), (2, .ref (a 50)), (3, .ref (a 49))]) hx hb dL_law_1360 hl (k := 6) rfl ex_363.symm (by decide) rfl (fun ls hl => ?_)
        refine lv_goto (tgt := 23) hx hb dL_law_1363 (by decide) ?_
        refine W.widen (k := 200 + 4 * (q + 1)) (n := 60000 + 100 * (q + 1)) (by omega) (by omega) ?_
        exact ih (q + 1) x_363 tm_359 lm_359 ym_362 gm_362 um_359 v H _ ls (by omega) hF hI hJ hW hTh hFo (by omega) (by omega) (by omega) (by omega) (by omega) hT hS (lv_sub hl [3, 4, 5, 6, 0] rfl)
      · refine lq_top (v := 20) t_5 ?_
        have nt_5 := z_eq rfl (zk (x := 20) 20 rfl) t_5
        refine lv_tableIn (tgt := 981) hx hb dL_law_40 (by decide) (by decide) (off := 941) (by decide) (by decide) ?_
        refine lv_aload_n hx hb dL_law_981 rfl (lv_at hl 1 rfl) ?_
        refine lv_aload_n hx hb dL_law_982 rfl (lv_at hl 0 rfl) ?_
        refine lv_iload hx hb dL_law_983 (lv_at hl 4 rfl) ?_
        refine lv_iconst (v := 1) hx hb dL_law_985 (by decide) ?_
        refine lv_iadd hx hb dL_law_986 ?_
        refine lv_topi (fun x_364 ex_364 => ?_)
        have hx_364 := z_add ex_364 rfl (zk (x := 1) 1 rfl) (by omega) (by omega)
        refine va_sld hx hb hXs hbl hbA hS (z_in rfl (by omega) (by omega)) dL_law_987 ?_
        refine lq_top (v := s1) (by rw [hs1]; exact congrArg xs (by rw [z_nat (x := x_364) rfl]; omega)) ?_
        refine lv_aload_n hx hb dL_law_988 rfl (lv_at hl 0 rfl) ?_
        refine lv_iload hx hb dL_law_989 (lv_at hl 4 rfl) ?_
        refine lv_iconst (v := 2) hx hb dL_law_991 (by decide) ?_
        refine lv_iadd hx hb dL_law_992 ?_
        refine lv_topi (fun x_365 ex_365 => ?_)
        have hx_365 := z_add ex_365 rfl (zk (x := 2) 2 rfl) (by omega) (by omega)
        refine va_sld hx hb hXs hbl hbA hS (z_in rfl (by omega) (by omega)) dL_law_993 ?_
        refine lq_top (v := s2) (by rw [hs2]; exact congrArg xs (by rw [z_nat (x := x_365) rfl]; omega)) ?_
        refine lv_aload_n hx hb dL_law_994 rfl (lv_at hl 3 rfl) ?_
        have hFc := tw_free hF hS hA
        refine va_calli (vx_runSW (As := [.ref (a 0), .int s1, .int s2, .ref (a 49)]) (rest := []) ⟨hx, hb, hml, hown, hts⟩ (k_earns l hst dC dI ad av H.size a k τ ln y g u s1 s2 hI ) (vx_cwSW 4 hts (gi_3 (im_law _ (List.mem_of_getElem? (i := 120) rfl)) (im_law _ (List.mem_of_getElem? (i := 121) rfl)) (im_law _ (List.mem_of_getElem? (i := 52) rfl)) im_k_earns gd_k_earns) rfl rfl rfl (by decide +kernel) ⟨Nat.le_of_ble_eq_true rfl, Nat.le_of_ble_eq_true rfl⟩) ⟨pw_blind, pw_use hT hK hFc hS hM⟩ rfl rfl hl.1 rfl (lv_room (Nat.le_of_ble_eq_true rfl)) dL_law_995 ⟨by show 200 + 4 * q + 1 ≤ 601024; omega, by show 60000 + 100 * q + 6 ≤ 7293034; omega⟩) hS (fun q _ h => hFc q h) hFc (fun r0 r_366 t H locs ht hvm hw hB hz1 hk1 hS => ?_)
        clear hvm hz1 hk1
        subst hw
        have hIo := hI
        obtain ⟨um_367, hum_367, ⟨tm_367, lm_367, ym_367, gm_367, hMo, hKM, hI, hT⟩⟩ := hB
        rw [ht] at hT
        have hF : ∀ q, tm_367 q ≠ 0 → s.heap.size ≤ q := fun q h => hFc q (hMo.2 q h)
        have hFo := hFo.kp hIo hKM (hum_367 1 (by decide)) (hum_367 2 (by decide)) (hum_367 9 (by decide))
        have hKM := hKM.to0
        have hJ := hJ.kp hKM hI.1
        have hW : IW (v 1) (v 2) (v 9) (ym_367 (a 89)) := by rw [hKM.fx hX (j := 89) (by decide) (by decide)]; exact hW
        have hTh : vb 38408 0 4800 (ym_367 (a 99)) := by rw [hKM.fx hX (j := 99) (by decide) (by decide)]; exact hTh
        have hX := hI.1
        have : um_367 2 = u 2 := hum_367 2 (by decide)
        have : um_367 9 = u 9 := hum_367 9 (by decide)
        refine lv_istore (lv' := [(5, .int r_366), (0, .ref b), (1, .ref (a 0)), (2, .ref (a 50)), (3, .ref (a 49)), (4, .int i4)]) hx hb dL_law_998 hl (by decide) rfl (fun ls hl => ?_)
        refine lv_aload_n hx hb dL_law_1000 rfl (lv_at hl 3 rfl) ?_
        refine lv_aload_n hx hb dL_law_1001 rfl (lv_at hl 1 rfl) ?_
        refine lv_iload hx hb dL_law_1002 (lv_at hl 5 rfl) ?_
        refine lv_iconst (v := 1) hx hb dL_law_1004 (by decide) ?_
        refine lv_iadd hx hb dL_law_1005 ?_
        refine lv_topi (fun x_368 ex_368 => ?_)
        have hx_368 := z_add ex_368 rfl (zk (x := 1) 1 rfl) (by omega) (by omega)
        refine va_sld hx hb hXs hbl hbA hS (z_in rfl (by omega) (by omega)) dL_law_1006 ?_
        refine lq_top (v := s1) (by rw [hs1]; exact congrArg xs (by rw [z_nat (x := x_368) rfl]; omega)) ?_
        refine lv_aload_n hx hb dL_law_1007 rfl (lv_at hl 1 rfl) ?_
        refine lv_iload hx hb dL_law_1008 (lv_at hl 5 rfl) ?_
        refine lv_iconst (v := 2) hx hb dL_law_1010 (by decide) ?_
        refine lv_iadd hx hb dL_law_1011 ?_
        refine lv_topi (fun x_369 ex_369 => ?_)
        have hx_369 := z_add ex_369 rfl (zk (x := 2) 2 rfl) (by omega) (by omega)
        refine va_sld hx hb hXs hbl hbA hS (z_in rfl (by omega) (by omega)) dL_law_1012 ?_
        refine lq_top (v := s2) (by rw [hs2]; exact congrArg xs (by rw [z_nat (x := x_369) rfl]; omega)) ?_
        have hFc := tw_free hF hS hA
        refine va_calli (va_runV (As := [.int s1, .int s2]) (rest := []) ⟨hx, hb, hml, hown, hts⟩ (m_earns l dC dI ad av H.size a k tm_367 lm_367 ym_367 gm_367 v s1 s2 hJ hW) (cwV 2 hts (gi_4 (im_law _ (List.mem_of_getElem? (i := 122) rfl)) (im_law _ (List.mem_of_getElem? (i := 123) rfl)) (im_law _ (List.mem_of_getElem? (i := 124) rfl)) (im_law _ (List.mem_of_getElem? (i := 7) rfl)) im_m_earns gd_m_earns) rfl rfl rfl (by decide +kernel) ⟨Nat.le_of_ble_eq_true rfl, Nat.le_of_ble_eq_true rfl⟩) ⟨pw_blind, tw_recv hK hT (fx_50 hX) (by decide) cl_e60 rfl, pw_use hT hK hFc hS hM⟩ rfl rfl hl.1 rfl (lv_room (Nat.le_of_ble_eq_true rfl)) dL_law_1013 ⟨by show 200 + 4 * q + 1 + 0 ≤ 601024; omega, by show 60000 + 100 * q + 6 + 0 ≤ 7293034; omega⟩) hS (fun q _ h => hFc q h) hFc (fun r0 r_370 t H locs ht hvm hw hB hz1 hk1 hS => ?_)
        clear hvm hz1 hk1
        subst hw
        have hIo := hI
        obtain ⟨ym_371, gm_371, hgm_371, hggm_371, hJ, hT⟩ := hB
        rw [ht] at hT
        have hFo := hFo.m hIo hgm_371 (by decide) (hggm_371 (a 10) (by rw [fx_10 hX]; decide))
        have hI := hI.ag hgm_371 (by decide)
        have hI := hI.agg hggm_371
        have hW : IW (v 1) (v 2) (v 9) (ym_371 (a 89)) := by rw [hgm_371.at (fx_89 hX) (by decide)]; exact hW
        have hTh : vb 38408 0 4800 (ym_371 (a 99)) := by rw [hgm_371.at (fx_99 hX) (by decide)]; exact hTh
        refine lv_istore (lv' := [(6, .int r_370), (5, .int r_366), (0, .ref b), (1, .ref (a 0)), (2, .ref (a 50)), (3, .ref (a 49)), (4, .int i4)]) hx hb dL_law_1016 hl (by decide) rfl (fun ls hl => ?_)
        refine lv_goto (tgt := 1360) hx hb dL_law_1018 (by decide) ?_
        obtain ⟨x_372, ex_372⟩ : ∃ y : Int32, y = i4 + Int32.ofInt 10 := ⟨_, rfl⟩
        have hx_372 := z_add ex_372 rfl (zk (x := Int32.ofInt 10) 10 rfl) (by omega) (by omega)
        refine lv_iinc (v := x_372) (lv' := [(4, .int x_372), (6, .int r_370), (5, .int r_366), (0, .ref b), (1, .ref (a 0)), (2, .ref (a 50)), (3, .ref (a 49))]) hx hb dL_law_1360 hl (k := 6) rfl ex_372.symm (by decide) rfl (fun ls hl => ?_)
        refine lv_goto (tgt := 23) hx hb dL_law_1363 (by decide) ?_
        refine W.widen (k := 200 + 4 * (q + 1)) (n := 60000 + 100 * (q + 1)) (by omega) (by omega) ?_
        exact ih (q + 1) x_372 tm_367 lm_367 ym_371 gm_371 um_367 v H _ ls (by omega) hF hI hJ hW hTh hFo (by omega) (by omega) (by omega) (by omega) (by omega) hT hS (lv_sub hl [3, 4, 5, 6, 0] rfl)
      · refine lq_top (v := 21) t_5 ?_
        have nt_5 := z_eq rfl (zk (x := 21) 21 rfl) t_5
        refine lv_tableIn (tgt := 1021) hx hb dL_law_40 (by decide) (by decide) (off := 981) (by decide) (by decide) ?_
        refine lv_aload_n hx hb dL_law_1021 rfl (lv_at hl 1 rfl) ?_
        refine lv_aload_n hx hb dL_law_1022 rfl (lv_at hl 0 rfl) ?_
        refine lv_iload hx hb dL_law_1023 (lv_at hl 4 rfl) ?_
        refine lv_iconst (v := 1) hx hb dL_law_1025 (by decide) ?_
        refine lv_iadd hx hb dL_law_1026 ?_
        refine lv_topi (fun x_373 ex_373 => ?_)
        have hx_373 := z_add ex_373 rfl (zk (x := 1) 1 rfl) (by omega) (by omega)
        refine va_sld hx hb hXs hbl hbA hS (z_in rfl (by omega) (by omega)) dL_law_1027 ?_
        refine lq_top (v := s1) (by rw [hs1]; exact congrArg xs (by rw [z_nat (x := x_373) rfl]; omega)) ?_
        refine lv_aload_n hx hb dL_law_1028 rfl (lv_at hl 0 rfl) ?_
        refine lv_iload hx hb dL_law_1029 (lv_at hl 4 rfl) ?_
        refine lv_iconst (v := 2) hx hb dL_law_1031 (by decide) ?_
        refine lv_iadd hx hb dL_law_1032 ?_
        refine lv_topi (fun x_374 ex_374 => ?_)
        have hx_374 := z_add ex_374 rfl (zk (x := 2) 2 rfl) (by omega) (by omega)
        refine va_sld hx hb hXs hbl hbA hS (z_in rfl (by omega) (by omega)) dL_law_1033 ?_
        refine lq_top (v := s2) (by rw [hs2]; exact congrArg xs (by rw [z_nat (x := x_374) rfl]; omega)) ?_
        refine lv_aload_n hx hb dL_law_1034 rfl (lv_at hl 0 rfl) ?_
        refine lv_iload hx hb dL_law_1035 (lv_at hl 4 rfl) ?_
        refine lv_iconst (v := 3) hx hb dL_law_1037 (by decide) ?_
        refine lv_iadd hx hb dL_law_1038 ?_
        refine lv_topi (fun x_375 ex_375 => ?_)
        have hx_375 := z_add ex_375 rfl (zk (x := 3) 3 rfl) (by omega) (by omega)
        refine va_sld hx hb hXs hbl hbA hS (z_in rfl (by omega) (by omega)) dL_law_1039 ?_
        refine lq_top (v := s3) (by rw [hs3]; exact congrArg xs (by rw [z_nat (x := x_375) rfl]; omega)) ?_
        have hFc := tw_free hF hS hA
        refine va_calli (va_runV (As := [.int s1, .int s2, .int s3]) (rest := []) ⟨hx, hb, hml, hown, hts⟩ (c_slips l dC dI ad av H.size a k τ ln y g u s1 s2 s3 hI ) (cwV 3 hts (gi_4 (im_law _ (List.mem_of_getElem? (i := 125) rfl)) (im_law _ (List.mem_of_getElem? (i := 126) rfl)) (im_law _ (List.mem_of_getElem? (i := 127) rfl)) (im_law _ (List.mem_of_getElem? (i := 3) rfl)) im_c_slips gd_c_slips) rfl rfl rfl (by decide +kernel) ⟨Nat.le_of_ble_eq_true rfl, Nat.le_of_ble_eq_true rfl⟩) ⟨pw_blind, tw_recv hK hT (fx_0 hX) (by decide) cl_e10 rfl, pw_use hT hK hFc hS hM⟩ rfl rfl hl.1 rfl (lv_room (Nat.le_of_ble_eq_true rfl)) dL_law_1040 ⟨by show 200 + 4 * q + 0 ≤ 601024; omega, by show 60000 + 100 * q + 0 ≤ 7293034; omega⟩) hS (fun q _ h => hFc q h) hFc (fun r0 r_376 t H locs ht hvm hw hB hz1 hk1 hS => ?_)
        clear hvm hz1 hk1
        subst hw
        have hIo := hI
        rcases hB with ⟨um_377, hre, hum_377, hf_378, ⟨tm_377, lm_377, ym_377, gm_377, hMo, hKM, hI, hT⟩⟩ | ⟨um_379, hre, hum_379, hf_380, ⟨tm_379, lm_379, ym_379, gm_379, hMo, hKM, hI, hT⟩⟩
        · refine lq_top (v := 1) hre ?_
          rw [ht] at hT
          have hF : ∀ q, tm_377 q ≠ 0 → s.heap.size ≤ q := fun q h => hFc q (hMo.2 q h)
          have hFo := hFo.kp hIo hKM (hum_377 1 (by decide)) (hum_377 2 (by decide)) (hum_377 9 (by decide))
          have hKM := hKM.to0
          have hJ := hJ.kp hKM hI.1
          have hW : IW (v 1) (v 2) (v 9) (ym_377 (a 89)) := by rw [hKM.fx hX (j := 89) (by decide) (by decide)]; exact hW
          have hTh : vb 38408 0 4800 (ym_377 (a 99)) := by rw [hKM.fx hX (j := 99) (by decide) (by decide)]; exact hTh
          have hX := hI.1
          have : um_377 2 = u 2 := hum_377 2 (by decide)
          have : um_377 9 = u 9 := hum_377 9 (by decide)
          refine lv_aload_n hx hb dL_law_1043 rfl (lv_at hl 2 rfl) ?_
          refine lv_aload_n hx hb dL_law_1044 rfl (lv_at hl 0 rfl) ?_
          refine lv_iload hx hb dL_law_1045 (lv_at hl 4 rfl) ?_
          refine lv_iconst (v := 1) hx hb dL_law_1047 (by decide) ?_
          refine lv_iadd hx hb dL_law_1048 ?_
          refine lv_topi (fun x_381 ex_381 => ?_)
          have hx_381 := z_add ex_381 rfl (zk (x := 1) 1 rfl) (by omega) (by omega)
          refine va_sld hx hb hXs hbl hbA hS (z_in rfl (by omega) (by omega)) dL_law_1049 ?_
          refine lq_top (v := s1) (by rw [hs1]; exact congrArg xs (by rw [z_nat (x := x_381) rfl]; omega)) ?_
          refine lv_aload_n hx hb dL_law_1050 rfl (lv_at hl 0 rfl) ?_
          refine lv_iload hx hb dL_law_1051 (lv_at hl 4 rfl) ?_
          refine lv_iconst (v := 2) hx hb dL_law_1053 (by decide) ?_
          refine lv_iadd hx hb dL_law_1054 ?_
          refine lv_topi (fun x_382 ex_382 => ?_)
          have hx_382 := z_add ex_382 rfl (zk (x := 2) 2 rfl) (by omega) (by omega)
          refine va_sld hx hb hXs hbl hbA hS (z_in rfl (by omega) (by omega)) dL_law_1055 ?_
          refine lq_top (v := s2) (by rw [hs2]; exact congrArg xs (by rw [z_nat (x := x_382) rfl]; omega)) ?_
          refine lv_aload_n hx hb dL_law_1056 rfl (lv_at hl 0 rfl) ?_
          refine lv_iload hx hb dL_law_1057 (lv_at hl 4 rfl) ?_
          refine lv_iconst (v := 3) hx hb dL_law_1059 (by decide) ?_
          refine lv_iadd hx hb dL_law_1060 ?_
          refine lv_topi (fun x_383 ex_383 => ?_)
          have hx_383 := z_add ex_383 rfl (zk (x := 3) 3 rfl) (by omega) (by omega)
          refine va_sld hx hb hXs hbl hbA hS (z_in rfl (by omega) (by omega)) dL_law_1061 ?_
          refine lq_top (v := s3) (by rw [hs3]; exact congrArg xs (by rw [z_nat (x := x_383) rfl]; omega)) ?_
          have hFc := tw_free hF hS hA
          refine va_calli (va_runV (As := [.int s1, .int s2, .int s3]) (rest := [.int 1]) ⟨hx, hb, hml, hown, hts⟩ (m_slips l dC dI ad av H.size a k tm_377 lm_377 ym_377 gm_377 v s1 s2 s3 hJ hW) (cwV 3 hts (gi_4 (im_law _ (List.mem_of_getElem? (i := 128) rfl)) (im_law _ (List.mem_of_getElem? (i := 129) rfl)) (im_law _ (List.mem_of_getElem? (i := 130) rfl)) (im_law _ (List.mem_of_getElem? (i := 7) rfl)) im_m_slips gd_m_slips) rfl rfl rfl (by decide +kernel) ⟨Nat.le_of_ble_eq_true rfl, Nat.le_of_ble_eq_true rfl⟩) ⟨pw_blind, tw_recv hK hT (fx_50 hX) (by decide) cl_e60 rfl, pw_use hT hK hFc hS hM⟩ rfl rfl hl.1 rfl (lv_room (Nat.le_of_ble_eq_true rfl)) dL_law_1062 ⟨by show 200 + 4 * q + 0 + 0 ≤ 601024; omega, by show 60000 + 100 * q + 0 + 0 ≤ 7293034; omega⟩) hS (fun q _ h => hFc q h) hFc (fun r0 r_384 t H locs ht hvm hw hB hz1 hk1 hS => ?_)
          clear hvm hz1 hk1
          subst hw
          have hIo := hI
          rcases hB with ⟨ym_385, gm_385, hre, hgm_385, hggm_385, hJ, hf_386, hT⟩ | ⟨ym_387, gm_387, hre, hgm_387, hggm_387, hJ, hf_388, hT⟩
          · refine lq_top (v := 1) hre ?_
            rw [ht] at hT
            have hFo := hFo.m hIo hgm_385 (by decide) (hggm_385 (a 10) (by rw [fx_10 hX]; decide))
            have hI := hI.ag hgm_385 (by decide)
            have hI := hI.agg hggm_385
            have hW : IW (v 1) (v 2) (v 9) (ym_385 (a 89)) := by rw [hgm_385.at (fx_89 hX) (by decide)]; exact hW
            have hTh : vb 38408 0 4800 (ym_385 (a 99)) := by rw [hgm_385.at (fx_99 hX) (by decide)]; exact hTh
            refine lv_icmp_eq (tgt := 1360) hx hb dL_law_1065 (by decide) (fun c_389 => ?_) (fun c_389 => absurd c_389 (by decide))
            obtain ⟨x_390, ex_390⟩ : ∃ y : Int32, y = i4 + Int32.ofInt 10 := ⟨_, rfl⟩
            have hx_390 := z_add ex_390 rfl (zk (x := Int32.ofInt 10) 10 rfl) (by omega) (by omega)
            refine lv_iinc (v := x_390) (lv' := [(4, .int x_390), (0, .ref b), (1, .ref (a 0)), (2, .ref (a 50)), (3, .ref (a 49))]) hx hb dL_law_1360 hl (k := 4) rfl ex_390.symm (by decide) rfl (fun ls hl => ?_)
            refine lv_goto (tgt := 23) hx hb dL_law_1363 (by decide) ?_
            refine W.widen (k := 200 + 4 * (q + 1)) (n := 60000 + 100 * (q + 1)) (by omega) (by omega) ?_
            exact ih (q + 1) x_390 tm_377 lm_377 ym_385 gm_385 um_377 v H _ ls (by omega) hF hI hJ hW hTh hFo (by omega) (by omega) (by omega) (by omega) (by omega) hT hS (lv_sub hl [1, 2, 3, 4, 0] rfl)
          · refine lq_top (v := 0) hre ?_
            rw [ht] at hT
            have hFo := hFo.m hIo hgm_387 (by decide) (hggm_387 (a 10) (by rw [fx_10 hX]; decide))
            have hI := hI.ag hgm_387 (by decide)
            have hI := hI.agg hggm_387
            have hW : IW (v 1) (v 2) (v 9) (ym_387 (a 89)) := by rw [hgm_387.at (fx_89 hX) (by decide)]; exact hW
            have hTh : vb 38408 0 4800 (ym_387 (a 99)) := by rw [hgm_387.at (fx_99 hX) (by decide)]; exact hTh
            refine lv_icmp_eq (tgt := 1360) hx hb dL_law_1065 (by decide) (fun c_391 => absurd c_391 (by decide)) (fun c_391 => ?_)
            refine lv_iconst (v := 0) hx hb dL_law_1068 (by decide) ?_
            exfalso; omega
        · refine lq_top (v := 0) hre ?_
          rw [ht] at hT
          have hF : ∀ q, tm_379 q ≠ 0 → s.heap.size ≤ q := fun q h => hFc q (hMo.2 q h)
          have hFo := hFo.kp hIo hKM (hum_379 1 (by decide)) (hum_379 2 (by decide)) (hum_379 9 (by decide))
          have hKM := hKM.to0
          have hJ := hJ.kp hKM hI.1
          have hW : IW (v 1) (v 2) (v 9) (ym_379 (a 89)) := by rw [hKM.fx hX (j := 89) (by decide) (by decide)]; exact hW
          have hTh : vb 38408 0 4800 (ym_379 (a 99)) := by rw [hKM.fx hX (j := 99) (by decide) (by decide)]; exact hTh
          have hX := hI.1
          have : um_379 2 = u 2 := hum_379 2 (by decide)
          have : um_379 9 = u 9 := hum_379 9 (by decide)
          refine lv_aload_n hx hb dL_law_1043 rfl (lv_at hl 2 rfl) ?_
          refine lv_aload_n hx hb dL_law_1044 rfl (lv_at hl 0 rfl) ?_
          refine lv_iload hx hb dL_law_1045 (lv_at hl 4 rfl) ?_
          refine lv_iconst (v := 1) hx hb dL_law_1047 (by decide) ?_
          refine lv_iadd hx hb dL_law_1048 ?_
          refine lv_topi (fun x_392 ex_392 => ?_)
          have hx_392 := z_add ex_392 rfl (zk (x := 1) 1 rfl) (by omega) (by omega)
          refine va_sld hx hb hXs hbl hbA hS (z_in rfl (by omega) (by omega)) dL_law_1049 ?_
          refine lq_top (v := s1) (by rw [hs1]; exact congrArg xs (by rw [z_nat (x := x_392) rfl]; omega)) ?_
          refine lv_aload_n hx hb dL_law_1050 rfl (lv_at hl 0 rfl) ?_
          refine lv_iload hx hb dL_law_1051 (lv_at hl 4 rfl) ?_
          refine lv_iconst (v := 2) hx hb dL_law_1053 (by decide) ?_
          refine lv_iadd hx hb dL_law_1054 ?_
          refine lv_topi (fun x_393 ex_393 => ?_)
          have hx_393 := z_add ex_393 rfl (zk (x := 2) 2 rfl) (by omega) (by omega)
          refine va_sld hx hb hXs hbl hbA hS (z_in rfl (by omega) (by omega)) dL_law_1055 ?_
          refine lq_top (v := s2) (by rw [hs2]; exact congrArg xs (by rw [z_nat (x := x_393) rfl]; omega)) ?_
          refine lv_aload_n hx hb dL_law_1056 rfl (lv_at hl 0 rfl) ?_
          refine lv_iload hx hb dL_law_1057 (lv_at hl 4 rfl) ?_
          refine lv_iconst (v := 3) hx hb dL_law_1059 (by decide) ?_
          refine lv_iadd hx hb dL_law_1060 ?_
          refine lv_topi (fun x_394 ex_394 => ?_)
          have hx_394 := z_add ex_394 rfl (zk (x := 3) 3 rfl) (by omega) (by omega)
          refine va_sld hx hb hXs hbl hbA hS (z_in rfl (by omega) (by omega)) dL_law_1061 ?_
          refine lq_top (v := s3) (by rw [hs3]; exact congrArg xs (by rw [z_nat (x := x_394) rfl]; omega)) ?_
          have hFc := tw_free hF hS hA
          refine va_calli (va_runV (As := [.int s1, .int s2, .int s3]) (rest := [.int 0]) ⟨hx, hb, hml, hown, hts⟩ (m_slips l dC dI ad av H.size a k tm_379 lm_379 ym_379 gm_379 v s1 s2 s3 hJ hW) (cwV 3 hts (gi_4 (im_law _ (List.mem_of_getElem? (i := 128) rfl)) (im_law _ (List.mem_of_getElem? (i := 129) rfl)) (im_law _ (List.mem_of_getElem? (i := 130) rfl)) (im_law _ (List.mem_of_getElem? (i := 7) rfl)) im_m_slips gd_m_slips) rfl rfl rfl (by decide +kernel) ⟨Nat.le_of_ble_eq_true rfl, Nat.le_of_ble_eq_true rfl⟩) ⟨pw_blind, tw_recv hK hT (fx_50 hX) (by decide) cl_e60 rfl, pw_use hT hK hFc hS hM⟩ rfl rfl hl.1 rfl (lv_room (Nat.le_of_ble_eq_true rfl)) dL_law_1062 ⟨by show 200 + 4 * q + 0 + 0 ≤ 601024; omega, by show 60000 + 100 * q + 0 + 0 ≤ 7293034; omega⟩) hS (fun q _ h => hFc q h) hFc (fun r0 r_395 t H locs ht hvm hw hB hz1 hk1 hS => ?_)
          clear hvm hz1 hk1
          subst hw
          have hIo := hI
          rcases hB with ⟨ym_396, gm_396, hre, hgm_396, hggm_396, hJ, hf_397, hT⟩ | ⟨ym_398, gm_398, hre, hgm_398, hggm_398, hJ, hf_399, hT⟩
          · refine lq_top (v := 1) hre ?_
            rw [ht] at hT
            have hFo := hFo.m hIo hgm_396 (by decide) (hggm_396 (a 10) (by rw [fx_10 hX]; decide))
            have hI := hI.ag hgm_396 (by decide)
            have hI := hI.agg hggm_396
            have hW : IW (v 1) (v 2) (v 9) (ym_396 (a 89)) := by rw [hgm_396.at (fx_89 hX) (by decide)]; exact hW
            have hTh : vb 38408 0 4800 (ym_396 (a 99)) := by rw [hgm_396.at (fx_99 hX) (by decide)]; exact hTh
            refine lv_icmp_eq (tgt := 1360) hx hb dL_law_1065 (by decide) (fun c_400 => absurd c_400 (by decide)) (fun c_400 => ?_)
            refine lv_iconst (v := 0) hx hb dL_law_1068 (by decide) ?_
            exfalso; omega
          · refine lq_top (v := 0) hre ?_
            rw [ht] at hT
            have hFo := hFo.m hIo hgm_398 (by decide) (hggm_398 (a 10) (by rw [fx_10 hX]; decide))
            have hI := hI.ag hgm_398 (by decide)
            have hI := hI.agg hggm_398
            have hW : IW (v 1) (v 2) (v 9) (ym_398 (a 89)) := by rw [hgm_398.at (fx_89 hX) (by decide)]; exact hW
            have hTh : vb 38408 0 4800 (ym_398 (a 99)) := by rw [hgm_398.at (fx_99 hX) (by decide)]; exact hTh
            refine lv_icmp_eq (tgt := 1360) hx hb dL_law_1065 (by decide) (fun c_401 => ?_) (fun c_401 => absurd c_401 (by decide))
            obtain ⟨x_402, ex_402⟩ : ∃ y : Int32, y = i4 + Int32.ofInt 10 := ⟨_, rfl⟩
            have hx_402 := z_add ex_402 rfl (zk (x := Int32.ofInt 10) 10 rfl) (by omega) (by omega)
            refine lv_iinc (v := x_402) (lv' := [(4, .int x_402), (0, .ref b), (1, .ref (a 0)), (2, .ref (a 50)), (3, .ref (a 49))]) hx hb dL_law_1360 hl (k := 4) rfl ex_402.symm (by decide) rfl (fun ls hl => ?_)
            refine lv_goto (tgt := 23) hx hb dL_law_1363 (by decide) ?_
            refine W.widen (k := 200 + 4 * (q + 1)) (n := 60000 + 100 * (q + 1)) (by omega) (by omega) ?_
            exact ih (q + 1) x_402 tm_379 lm_379 ym_398 gm_398 um_379 v H _ ls (by omega) hF hI hJ hW hTh hFo (by omega) (by omega) (by omega) (by omega) (by omega) hT hS (lv_sub hl [1, 2, 3, 4, 0] rfl)
      · refine lq_top (v := 22) t_5 ?_
        have nt_5 := z_eq rfl (zk (x := 22) 22 rfl) t_5
        refine lv_tableIn (tgt := 1070) hx hb dL_law_40 (by decide) (by decide) (off := 1030) (by decide) (by decide) ?_
        refine lv_aload_n hx hb dL_law_1070 rfl (lv_at hl 1 rfl) ?_
        refine lv_aload_n hx hb dL_law_1071 rfl (lv_at hl 0 rfl) ?_
        refine lv_iload hx hb dL_law_1072 (lv_at hl 4 rfl) ?_
        refine lv_iconst (v := 1) hx hb dL_law_1074 (by decide) ?_
        refine lv_iadd hx hb dL_law_1075 ?_
        refine lv_topi (fun x_403 ex_403 => ?_)
        have hx_403 := z_add ex_403 rfl (zk (x := 1) 1 rfl) (by omega) (by omega)
        refine va_sld hx hb hXs hbl hbA hS (z_in rfl (by omega) (by omega)) dL_law_1076 ?_
        refine lq_top (v := s1) (by rw [hs1]; exact congrArg xs (by rw [z_nat (x := x_403) rfl]; omega)) ?_
        refine lv_aload_n hx hb dL_law_1077 rfl (lv_at hl 0 rfl) ?_
        refine lv_iload hx hb dL_law_1078 (lv_at hl 4 rfl) ?_
        refine lv_iconst (v := 2) hx hb dL_law_1080 (by decide) ?_
        refine lv_iadd hx hb dL_law_1081 ?_
        refine lv_topi (fun x_404 ex_404 => ?_)
        have hx_404 := z_add ex_404 rfl (zk (x := 2) 2 rfl) (by omega) (by omega)
        refine va_sld hx hb hXs hbl hbA hS (z_in rfl (by omega) (by omega)) dL_law_1082 ?_
        refine lq_top (v := s2) (by rw [hs2]; exact congrArg xs (by rw [z_nat (x := x_404) rfl]; omega)) ?_
        have hFc := tw_free hF hS hA
        refine va_calli (va_runV (As := [.int s1, .int s2]) (rest := []) ⟨hx, hb, hml, hown, hts⟩ (c_left l dC dI ad av H.size a k τ ln y g u s1 s2 hI ) (cwV 2 hts (gi_4 (im_law _ (List.mem_of_getElem? (i := 131) rfl)) (im_law _ (List.mem_of_getElem? (i := 132) rfl)) (im_law _ (List.mem_of_getElem? (i := 133) rfl)) (im_law _ (List.mem_of_getElem? (i := 3) rfl)) im_c_left gd_c_left) rfl rfl rfl (by decide +kernel) ⟨Nat.le_of_ble_eq_true rfl, Nat.le_of_ble_eq_true rfl⟩) ⟨pw_blind, tw_recv hK hT (fx_0 hX) (by decide) cl_e10 rfl, pw_use hT hK hFc hS hM⟩ rfl rfl hl.1 rfl (lv_room (Nat.le_of_ble_eq_true rfl)) dL_law_1083 ⟨by show 200 + 4 * q + 0 ≤ 601024; omega, by show 60000 + 100 * q + 0 ≤ 7293034; omega⟩) hS (fun q _ h => hFc q h) hFc (fun r0 r_405 t H locs ht hvm hw hB hz1 hk1 hS => ?_)
        clear hvm hz1 hk1
        subst hw
        have hIo := hI
        obtain ⟨um_406, hum_406, ⟨tm_406, lm_406, ym_406, gm_406, hMo, hKM, hI, hT⟩⟩ := hB
        rw [ht] at hT
        have hF : ∀ q, tm_406 q ≠ 0 → s.heap.size ≤ q := fun q h => hFc q (hMo.2 q h)
        have hFo := hFo.kp hIo hKM (hum_406 1 (by decide)) (hum_406 2 (by decide)) (hum_406 9 (by decide))
        have hKM := hKM.to0
        have hJ := hJ.kp hKM hI.1
        have hW : IW (v 1) (v 2) (v 9) (ym_406 (a 89)) := by rw [hKM.fx hX (j := 89) (by decide) (by decide)]; exact hW
        have hTh : vb 38408 0 4800 (ym_406 (a 99)) := by rw [hKM.fx hX (j := 99) (by decide) (by decide)]; exact hTh
        have hX := hI.1
        have : um_406 2 = u 2 := hum_406 2 (by decide)
        have : um_406 9 = u 9 := hum_406 9 (by decide)
        refine lv_pop hx hb dL_law_1086 rfl ?_
        refine lv_aload_n hx hb dL_law_1087 rfl (lv_at hl 2 rfl) ?_
        refine lv_aload_n hx hb dL_law_1088 rfl (lv_at hl 0 rfl) ?_
        refine lv_iload hx hb dL_law_1089 (lv_at hl 4 rfl) ?_
        refine lv_iconst (v := 1) hx hb dL_law_1091 (by decide) ?_
        refine lv_iadd hx hb dL_law_1092 ?_
        refine lv_topi (fun x_407 ex_407 => ?_)
        have hx_407 := z_add ex_407 rfl (zk (x := 1) 1 rfl) (by omega) (by omega)
        refine va_sld hx hb hXs hbl hbA hS (z_in rfl (by omega) (by omega)) dL_law_1093 ?_
        refine lq_top (v := s1) (by rw [hs1]; exact congrArg xs (by rw [z_nat (x := x_407) rfl]; omega)) ?_
        refine lv_aload_n hx hb dL_law_1094 rfl (lv_at hl 0 rfl) ?_
        refine lv_iload hx hb dL_law_1095 (lv_at hl 4 rfl) ?_
        refine lv_iconst (v := 2) hx hb dL_law_1097 (by decide) ?_
        refine lv_iadd hx hb dL_law_1098 ?_
        refine lv_topi (fun x_408 ex_408 => ?_)
        have hx_408 := z_add ex_408 rfl (zk (x := 2) 2 rfl) (by omega) (by omega)
        refine va_sld hx hb hXs hbl hbA hS (z_in rfl (by omega) (by omega)) dL_law_1099 ?_
        refine lq_top (v := s2) (by rw [hs2]; exact congrArg xs (by rw [z_nat (x := x_408) rfl]; omega)) ?_
        have hFc := tw_free hF hS hA
        refine va_calli (va_runV (As := [.int s1, .int s2]) (rest := []) ⟨hx, hb, hml, hown, hts⟩ (m_left l dC dI ad av H.size a k tm_406 lm_406 ym_406 gm_406 v s1 s2 hJ hW) (cwV 2 hts (gi_4 (im_law _ (List.mem_of_getElem? (i := 134) rfl)) (im_law _ (List.mem_of_getElem? (i := 135) rfl)) (im_law _ (List.mem_of_getElem? (i := 136) rfl)) (im_law _ (List.mem_of_getElem? (i := 7) rfl)) im_m_left gd_m_left) rfl rfl rfl (by decide +kernel) ⟨Nat.le_of_ble_eq_true rfl, Nat.le_of_ble_eq_true rfl⟩) ⟨pw_blind, tw_recv hK hT (fx_50 hX) (by decide) cl_e60 rfl, pw_use hT hK hFc hS hM⟩ rfl rfl hl.1 rfl (lv_room (Nat.le_of_ble_eq_true rfl)) dL_law_1100 ⟨by show 200 + 4 * q + 0 + 0 ≤ 601024; omega, by show 60000 + 100 * q + 0 + 0 ≤ 7293034; omega⟩) hS (fun q _ h => hFc q h) hFc (fun r0 r_409 t H locs ht hvm hw hB hz1 hk1 hS => ?_)
        clear hvm hz1 hk1
        subst hw
        have hIo := hI
        obtain ⟨ym_410, gm_410, hgm_410, hggm_410, hJ, hT⟩ := hB
        rw [ht] at hT
        have hFo := hFo.m hIo hgm_410 (by decide) (hggm_410 (a 10) (by rw [fx_10 hX]; decide))
        have hI := hI.ag hgm_410 (by decide)
        have hI := hI.agg hggm_410
        have hW : IW (v 1) (v 2) (v 9) (ym_410 (a 89)) := by rw [hgm_410.at (fx_89 hX) (by decide)]; exact hW
        have hTh : vb 38408 0 4800 (ym_410 (a 99)) := by rw [hgm_410.at (fx_99 hX) (by decide)]; exact hTh
        refine lv_pop hx hb dL_law_1103 rfl ?_
        refine lv_goto (tgt := 1360) hx hb dL_law_1104 (by decide) ?_
        obtain ⟨x_411, ex_411⟩ : ∃ y : Int32, y = i4 + Int32.ofInt 10 := ⟨_, rfl⟩
        have hx_411 := z_add ex_411 rfl (zk (x := Int32.ofInt 10) 10 rfl) (by omega) (by omega)
        refine lv_iinc (v := x_411) (lv' := [(4, .int x_411), (0, .ref b), (1, .ref (a 0)), (2, .ref (a 50)), (3, .ref (a 49))]) hx hb dL_law_1360 hl (k := 4) rfl ex_411.symm (by decide) rfl (fun ls hl => ?_)
        refine lv_goto (tgt := 23) hx hb dL_law_1363 (by decide) ?_
        refine W.widen (k := 200 + 4 * (q + 1)) (n := 60000 + 100 * (q + 1)) (by omega) (by omega) ?_
        exact ih (q + 1) x_411 tm_406 lm_406 ym_410 gm_410 um_406 v H _ ls (by omega) hF hI hJ hW hTh hFo (by omega) (by omega) (by omega) (by omega) (by omega) hT hS (lv_sub hl [1, 2, 3, 4, 0] rfl)
      · refine lq_top (v := 23) t_5 ?_
        have nt_5 := z_eq rfl (zk (x := 23) 23 rfl) t_5
        refine lv_tableIn (tgt := 1107) hx hb dL_law_40 (by decide) (by decide) (off := 1067) (by decide) (by decide) ?_
        refine lv_aload_n hx hb dL_law_1107 rfl (lv_at hl 1 rfl) ?_
        refine lv_aload_n hx hb dL_law_1108 rfl (lv_at hl 0 rfl) ?_
        refine lv_iload hx hb dL_law_1109 (lv_at hl 4 rfl) ?_
        refine lv_iconst (v := 1) hx hb dL_law_1111 (by decide) ?_
        refine lv_iadd hx hb dL_law_1112 ?_
        refine lv_topi (fun x_412 ex_412 => ?_)
        have hx_412 := z_add ex_412 rfl (zk (x := 1) 1 rfl) (by omega) (by omega)
        refine va_sld hx hb hXs hbl hbA hS (z_in rfl (by omega) (by omega)) dL_law_1113 ?_
        refine lq_top (v := s1) (by rw [hs1]; exact congrArg xs (by rw [z_nat (x := x_412) rfl]; omega)) ?_
        refine lv_aload_n hx hb dL_law_1114 rfl (lv_at hl 0 rfl) ?_
        refine lv_iload hx hb dL_law_1115 (lv_at hl 4 rfl) ?_
        refine lv_iconst (v := 2) hx hb dL_law_1117 (by decide) ?_
        refine lv_iadd hx hb dL_law_1118 ?_
        refine lv_topi (fun x_413 ex_413 => ?_)
        have hx_413 := z_add ex_413 rfl (zk (x := 2) 2 rfl) (by omega) (by omega)
        refine va_sld hx hb hXs hbl hbA hS (z_in rfl (by omega) (by omega)) dL_law_1119 ?_
        refine lq_top (v := s2) (by rw [hs2]; exact congrArg xs (by rw [z_nat (x := x_413) rfl]; omega)) ?_
        have hFc := tw_free hF hS hA
        refine va_calli (va_runV (As := [.int s1, .int s2]) (rest := []) ⟨hx, hb, hml, hown, hts⟩ (c_quick l dC dI ad av H.size a k τ ln y g u s1 s2 hI ) (cwV 2 hts (gi_4 (im_law _ (List.mem_of_getElem? (i := 137) rfl)) (im_law _ (List.mem_of_getElem? (i := 138) rfl)) (im_law _ (List.mem_of_getElem? (i := 139) rfl)) (im_law _ (List.mem_of_getElem? (i := 3) rfl)) im_c_quick gd_c_quick) rfl rfl rfl (by decide +kernel) ⟨Nat.le_of_ble_eq_true rfl, Nat.le_of_ble_eq_true rfl⟩) ⟨pw_blind, tw_recv hK hT (fx_0 hX) (by decide) cl_e10 rfl, pw_use hT hK hFc hS hM⟩ rfl rfl hl.1 rfl (lv_room (Nat.le_of_ble_eq_true rfl)) dL_law_1120 ⟨by show 200 + 4 * q + 0 ≤ 601024; omega, by show 60000 + 100 * q + 0 ≤ 7293034; omega⟩) hS (fun q _ h => hFc q h) hFc (fun r0 r_414 t H locs ht hvm hw hB hz1 hk1 hS => ?_)
        clear hvm hz1 hk1
        subst hw
        have hIo := hI
        obtain ⟨um_415, hum_415, ⟨tm_415, lm_415, ym_415, gm_415, hMo, hKM, hI, hT⟩⟩ := hB
        rw [ht] at hT
        have hF : ∀ q, tm_415 q ≠ 0 → s.heap.size ≤ q := fun q h => hFc q (hMo.2 q h)
        have hFo := hFo.kp hIo hKM (hum_415 1 (by decide)) (hum_415 2 (by decide)) (hum_415 9 (by decide))
        have hKM := hKM.to0
        have hJ := hJ.kp hKM hI.1
        have hW : IW (v 1) (v 2) (v 9) (ym_415 (a 89)) := by rw [hKM.fx hX (j := 89) (by decide) (by decide)]; exact hW
        have hTh : vb 38408 0 4800 (ym_415 (a 99)) := by rw [hKM.fx hX (j := 99) (by decide) (by decide)]; exact hTh
        have hX := hI.1
        have : um_415 2 = u 2 := hum_415 2 (by decide)
        have : um_415 9 = u 9 := hum_415 9 (by decide)
        refine lv_pop hx hb dL_law_1123 rfl ?_
        refine lv_aload_n hx hb dL_law_1124 rfl (lv_at hl 2 rfl) ?_
        refine lv_aload_n hx hb dL_law_1125 rfl (lv_at hl 0 rfl) ?_
        refine lv_iload hx hb dL_law_1126 (lv_at hl 4 rfl) ?_
        refine lv_iconst (v := 1) hx hb dL_law_1128 (by decide) ?_
        refine lv_iadd hx hb dL_law_1129 ?_
        refine lv_topi (fun x_416 ex_416 => ?_)
        have hx_416 := z_add ex_416 rfl (zk (x := 1) 1 rfl) (by omega) (by omega)
        refine va_sld hx hb hXs hbl hbA hS (z_in rfl (by omega) (by omega)) dL_law_1130 ?_
        refine lq_top (v := s1) (by rw [hs1]; exact congrArg xs (by rw [z_nat (x := x_416) rfl]; omega)) ?_
        refine lv_aload_n hx hb dL_law_1131 rfl (lv_at hl 0 rfl) ?_
        refine lv_iload hx hb dL_law_1132 (lv_at hl 4 rfl) ?_
        refine lv_iconst (v := 2) hx hb dL_law_1134 (by decide) ?_
        refine lv_iadd hx hb dL_law_1135 ?_
        refine lv_topi (fun x_417 ex_417 => ?_)
        have hx_417 := z_add ex_417 rfl (zk (x := 2) 2 rfl) (by omega) (by omega)
        refine va_sld hx hb hXs hbl hbA hS (z_in rfl (by omega) (by omega)) dL_law_1136 ?_
        refine lq_top (v := s2) (by rw [hs2]; exact congrArg xs (by rw [z_nat (x := x_417) rfl]; omega)) ?_
        have hFc := tw_free hF hS hA
        refine va_calli (va_runV (As := [.int s1, .int s2]) (rest := []) ⟨hx, hb, hml, hown, hts⟩ (m_quick l dC dI ad av H.size a k tm_415 lm_415 ym_415 gm_415 v s1 s2 hJ hW) (cwV 2 hts (gi_4 (im_law _ (List.mem_of_getElem? (i := 140) rfl)) (im_law _ (List.mem_of_getElem? (i := 141) rfl)) (im_law _ (List.mem_of_getElem? (i := 142) rfl)) (im_law _ (List.mem_of_getElem? (i := 7) rfl)) im_m_quick gd_m_quick) rfl rfl rfl (by decide +kernel) ⟨Nat.le_of_ble_eq_true rfl, Nat.le_of_ble_eq_true rfl⟩) ⟨pw_blind, tw_recv hK hT (fx_50 hX) (by decide) cl_e60 rfl, pw_use hT hK hFc hS hM⟩ rfl rfl hl.1 rfl (lv_room (Nat.le_of_ble_eq_true rfl)) dL_law_1137 ⟨by show 200 + 4 * q + 0 + 0 ≤ 601024; omega, by show 60000 + 100 * q + 0 + 0 ≤ 7293034; omega⟩) hS (fun q _ h => hFc q h) hFc (fun r0 r_418 t H locs ht hvm hw hB hz1 hk1 hS => ?_)
        clear hvm hz1 hk1
        subst hw
        have hIo := hI
        obtain ⟨ym_419, gm_419, hgm_419, hggm_419, hJ, hT⟩ := hB
        rw [ht] at hT
        have hFo := hFo.m hIo hgm_419 (by decide) (hggm_419 (a 10) (by rw [fx_10 hX]; decide))
        have hI := hI.ag hgm_419 (by decide)
        have hI := hI.agg hggm_419
        have hW : IW (v 1) (v 2) (v 9) (ym_419 (a 89)) := by rw [hgm_419.at (fx_89 hX) (by decide)]; exact hW
        have hTh : vb 38408 0 4800 (ym_419 (a 99)) := by rw [hgm_419.at (fx_99 hX) (by decide)]; exact hTh
        refine lv_pop hx hb dL_law_1140 rfl ?_
        refine lv_goto (tgt := 1360) hx hb dL_law_1141 (by decide) ?_
        obtain ⟨x_420, ex_420⟩ : ∃ y : Int32, y = i4 + Int32.ofInt 10 := ⟨_, rfl⟩
        have hx_420 := z_add ex_420 rfl (zk (x := Int32.ofInt 10) 10 rfl) (by omega) (by omega)
        refine lv_iinc (v := x_420) (lv' := [(4, .int x_420), (0, .ref b), (1, .ref (a 0)), (2, .ref (a 50)), (3, .ref (a 49))]) hx hb dL_law_1360 hl (k := 4) rfl ex_420.symm (by decide) rfl (fun ls hl => ?_)
        refine lv_goto (tgt := 23) hx hb dL_law_1363 (by decide) ?_
        refine W.widen (k := 200 + 4 * (q + 1)) (n := 60000 + 100 * (q + 1)) (by omega) (by omega) ?_
        exact ih (q + 1) x_420 tm_415 lm_415 ym_419 gm_419 um_415 v H _ ls (by omega) hF hI hJ hW hTh hFo (by omega) (by omega) (by omega) (by omega) (by omega) hT hS (lv_sub hl [1, 2, 3, 4, 0] rfl)
      · refine lq_top (v := 24) t_5 ?_
        have nt_5 := z_eq rfl (zk (x := 24) 24 rfl) t_5
        refine lv_tableIn (tgt := 1144) hx hb dL_law_40 (by decide) (by decide) (off := 1104) (by decide) (by decide) ?_
        refine lv_aload_n hx hb dL_law_1144 rfl (lv_at hl 1 rfl) ?_
        refine lv_aload_n hx hb dL_law_1145 rfl (lv_at hl 0 rfl) ?_
        refine lv_iload hx hb dL_law_1146 (lv_at hl 4 rfl) ?_
        refine lv_iconst (v := 1) hx hb dL_law_1148 (by decide) ?_
        refine lv_iadd hx hb dL_law_1149 ?_
        refine lv_topi (fun x_421 ex_421 => ?_)
        have hx_421 := z_add ex_421 rfl (zk (x := 1) 1 rfl) (by omega) (by omega)
        refine va_sld hx hb hXs hbl hbA hS (z_in rfl (by omega) (by omega)) dL_law_1150 ?_
        refine lq_top (v := s1) (by rw [hs1]; exact congrArg xs (by rw [z_nat (x := x_421) rfl]; omega)) ?_
        refine lv_aload_n hx hb dL_law_1151 rfl (lv_at hl 0 rfl) ?_
        refine lv_iload hx hb dL_law_1152 (lv_at hl 4 rfl) ?_
        refine lv_iconst (v := 2) hx hb dL_law_1154 (by decide) ?_
        refine lv_iadd hx hb dL_law_1155 ?_
        refine lv_topi (fun x_422 ex_422 => ?_)
        have hx_422 := z_add ex_422 rfl (zk (x := 2) 2 rfl) (by omega) (by omega)
        refine va_sld hx hb hXs hbl hbA hS (z_in rfl (by omega) (by omega)) dL_law_1156 ?_
        refine lq_top (v := s2) (by rw [hs2]; exact congrArg xs (by rw [z_nat (x := x_422) rfl]; omega)) ?_
        have hFc := tw_free hF hS hA
        refine va_calli (va_runV (As := [.int s1, .int s2]) (rest := []) ⟨hx, hb, hml, hown, hts⟩ (c_claims l dC dI ad av H.size a k τ ln y g u s1 s2 hI ) (cwV 2 hts (gi_4 (im_law _ (List.mem_of_getElem? (i := 143) rfl)) (im_law _ (List.mem_of_getElem? (i := 144) rfl)) (im_law _ (List.mem_of_getElem? (i := 145) rfl)) (im_law _ (List.mem_of_getElem? (i := 3) rfl)) im_c_claims gd_c_claims) rfl rfl rfl (by decide +kernel) ⟨Nat.le_of_ble_eq_true rfl, Nat.le_of_ble_eq_true rfl⟩) ⟨pw_blind, tw_recv hK hT (fx_0 hX) (by decide) cl_e10 rfl, pw_use hT hK hFc hS hM⟩ rfl rfl hl.1 rfl (lv_room (Nat.le_of_ble_eq_true rfl)) dL_law_1157 ⟨by show 200 + 4 * q + 0 ≤ 601024; omega, by show 60000 + 100 * q + 0 ≤ 7293034; omega⟩) hS (fun q _ h => hFc q h) hFc (fun r0 r_423 t H locs ht hvm hw hB hz1 hk1 hS => ?_)
        clear hvm hz1 hk1
        subst hw
        have hIo := hI
        obtain ⟨um_424, hum_424, ⟨tm_424, lm_424, ym_424, gm_424, hMo, hKM, hI, hT⟩⟩ := hB
        rw [ht] at hT
        have hF : ∀ q, tm_424 q ≠ 0 → s.heap.size ≤ q := fun q h => hFc q (hMo.2 q h)
        have hFo := hFo.kp hIo hKM (hum_424 1 (by decide)) (hum_424 2 (by decide)) (hum_424 9 (by decide))
        have hKM := hKM.to0
        have hJ := hJ.kp hKM hI.1
        have hW : IW (v 1) (v 2) (v 9) (ym_424 (a 89)) := by rw [hKM.fx hX (j := 89) (by decide) (by decide)]; exact hW
        have hTh : vb 38408 0 4800 (ym_424 (a 99)) := by rw [hKM.fx hX (j := 99) (by decide) (by decide)]; exact hTh
        have hX := hI.1
        have : um_424 2 = u 2 := hum_424 2 (by decide)
        have : um_424 9 = u 9 := hum_424 9 (by decide)
        refine lv_pop hx hb dL_law_1160 rfl ?_
        refine lv_aload_n hx hb dL_law_1161 rfl (lv_at hl 2 rfl) ?_
        refine lv_aload_n hx hb dL_law_1162 rfl (lv_at hl 0 rfl) ?_
        refine lv_iload hx hb dL_law_1163 (lv_at hl 4 rfl) ?_
        refine lv_iconst (v := 1) hx hb dL_law_1165 (by decide) ?_
        refine lv_iadd hx hb dL_law_1166 ?_
        refine lv_topi (fun x_425 ex_425 => ?_)
        have hx_425 := z_add ex_425 rfl (zk (x := 1) 1 rfl) (by omega) (by omega)
        refine va_sld hx hb hXs hbl hbA hS (z_in rfl (by omega) (by omega)) dL_law_1167 ?_
        refine lq_top (v := s1) (by rw [hs1]; exact congrArg xs (by rw [z_nat (x := x_425) rfl]; omega)) ?_
        refine lv_aload_n hx hb dL_law_1168 rfl (lv_at hl 0 rfl) ?_
        refine lv_iload hx hb dL_law_1169 (lv_at hl 4 rfl) ?_
        refine lv_iconst (v := 2) hx hb dL_law_1171 (by decide) ?_
        refine lv_iadd hx hb dL_law_1172 ?_
        refine lv_topi (fun x_426 ex_426 => ?_)
        have hx_426 := z_add ex_426 rfl (zk (x := 2) 2 rfl) (by omega) (by omega)
        refine va_sld hx hb hXs hbl hbA hS (z_in rfl (by omega) (by omega)) dL_law_1173 ?_
        refine lq_top (v := s2) (by rw [hs2]; exact congrArg xs (by rw [z_nat (x := x_426) rfl]; omega)) ?_
        have hFc := tw_free hF hS hA
        refine va_calli (va_runV (As := [.int s1, .int s2]) (rest := []) ⟨hx, hb, hml, hown, hts⟩ (m_claims l dC dI ad av H.size a k tm_424 lm_424 ym_424 gm_424 v s1 s2 hJ hW) (cwV 2 hts (gi_4 (im_law _ (List.mem_of_getElem? (i := 146) rfl)) (im_law _ (List.mem_of_getElem? (i := 147) rfl)) (im_law _ (List.mem_of_getElem? (i := 148) rfl)) (im_law _ (List.mem_of_getElem? (i := 7) rfl)) im_m_claims gd_m_claims) rfl rfl rfl (by decide +kernel) ⟨Nat.le_of_ble_eq_true rfl, Nat.le_of_ble_eq_true rfl⟩) ⟨pw_blind, tw_recv hK hT (fx_50 hX) (by decide) cl_e60 rfl, pw_use hT hK hFc hS hM⟩ rfl rfl hl.1 rfl (lv_room (Nat.le_of_ble_eq_true rfl)) dL_law_1174 ⟨by show 200 + 4 * q + 0 + 0 ≤ 601024; omega, by show 60000 + 100 * q + 0 + 0 ≤ 7293034; omega⟩) hS (fun q _ h => hFc q h) hFc (fun r0 r_427 t H locs ht hvm hw hB hz1 hk1 hS => ?_)
        clear hvm hz1 hk1
        subst hw
        have hIo := hI
        obtain ⟨ym_428, gm_428, hgm_428, hggm_428, hJ, hT⟩ := hB
        rw [ht] at hT
        have hFo := hFo.m hIo hgm_428 (by decide) (hggm_428 (a 10) (by rw [fx_10 hX]; decide))
        have hI := hI.ag hgm_428 (by decide)
        have hI := hI.agg hggm_428
        have hW : IW (v 1) (v 2) (v 9) (ym_428 (a 89)) := by rw [hgm_428.at (fx_89 hX) (by decide)]; exact hW
        have hTh : vb 38408 0 4800 (ym_428 (a 99)) := by rw [hgm_428.at (fx_99 hX) (by decide)]; exact hTh
        refine lv_pop hx hb dL_law_1177 rfl ?_
        refine lv_goto (tgt := 1360) hx hb dL_law_1178 (by decide) ?_
        obtain ⟨x_429, ex_429⟩ : ∃ y : Int32, y = i4 + Int32.ofInt 10 := ⟨_, rfl⟩
        have hx_429 := z_add ex_429 rfl (zk (x := Int32.ofInt 10) 10 rfl) (by omega) (by omega)
        refine lv_iinc (v := x_429) (lv' := [(4, .int x_429), (0, .ref b), (1, .ref (a 0)), (2, .ref (a 50)), (3, .ref (a 49))]) hx hb dL_law_1360 hl (k := 4) rfl ex_429.symm (by decide) rfl (fun ls hl => ?_)
        refine lv_goto (tgt := 23) hx hb dL_law_1363 (by decide) ?_
        refine W.widen (k := 200 + 4 * (q + 1)) (n := 60000 + 100 * (q + 1)) (by omega) (by omega) ?_
        exact ih (q + 1) x_429 tm_424 lm_424 ym_428 gm_428 um_424 v H _ ls (by omega) hF hI hJ hW hTh hFo (by omega) (by omega) (by omega) (by omega) (by omega) hT hS (lv_sub hl [1, 2, 3, 4, 0] rfl)
      · refine lq_top (v := 25) t_5 ?_
        have nt_5 := z_eq rfl (zk (x := 25) 25 rfl) t_5
        refine lv_tableIn (tgt := 1181) hx hb dL_law_40 (by decide) (by decide) (off := 1141) (by decide) (by decide) ?_
        refine lv_aload_n hx hb dL_law_1181 rfl (lv_at hl 1 rfl) ?_
        refine lv_aload_n hx hb dL_law_1182 rfl (lv_at hl 0 rfl) ?_
        refine lv_iload hx hb dL_law_1183 (lv_at hl 4 rfl) ?_
        refine lv_iconst (v := 1) hx hb dL_law_1185 (by decide) ?_
        refine lv_iadd hx hb dL_law_1186 ?_
        refine lv_topi (fun x_430 ex_430 => ?_)
        have hx_430 := z_add ex_430 rfl (zk (x := 1) 1 rfl) (by omega) (by omega)
        refine va_sld hx hb hXs hbl hbA hS (z_in rfl (by omega) (by omega)) dL_law_1187 ?_
        refine lq_top (v := s1) (by rw [hs1]; exact congrArg xs (by rw [z_nat (x := x_430) rfl]; omega)) ?_
        refine lv_aload_n hx hb dL_law_1188 rfl (lv_at hl 0 rfl) ?_
        refine lv_iload hx hb dL_law_1189 (lv_at hl 4 rfl) ?_
        refine lv_iconst (v := 2) hx hb dL_law_1191 (by decide) ?_
        refine lv_iadd hx hb dL_law_1192 ?_
        refine lv_topi (fun x_431 ex_431 => ?_)
        have hx_431 := z_add ex_431 rfl (zk (x := 2) 2 rfl) (by omega) (by omega)
        refine va_sld hx hb hXs hbl hbA hS (z_in rfl (by omega) (by omega)) dL_law_1193 ?_
        refine lq_top (v := s2) (by rw [hs2]; exact congrArg xs (by rw [z_nat (x := x_431) rfl]; omega)) ?_
        have hFc := tw_free hF hS hA
        refine va_calli (va_runV (As := [.int s1, .int s2]) (rest := []) ⟨hx, hb, hml, hown, hts⟩ (c_plan l dC dI ad av H.size a k τ ln y g u s1 s2 hI ) (cwV 2 hts (gi_4 (im_law _ (List.mem_of_getElem? (i := 149) rfl)) (im_law _ (List.mem_of_getElem? (i := 150) rfl)) (im_law _ (List.mem_of_getElem? (i := 151) rfl)) (im_law _ (List.mem_of_getElem? (i := 3) rfl)) im_c_plan gd_c_plan) rfl rfl rfl (by decide +kernel) ⟨Nat.le_of_ble_eq_true rfl, Nat.le_of_ble_eq_true rfl⟩) ⟨pw_blind, tw_recv hK hT (fx_0 hX) (by decide) cl_e10 rfl, pw_use hT hK hFc hS hM⟩ rfl rfl hl.1 rfl (lv_room (Nat.le_of_ble_eq_true rfl)) dL_law_1194 ⟨by show 200 + 4 * q + 0 ≤ 601024; omega, by show 60000 + 100 * q + 0 ≤ 7293034; omega⟩) hS (fun q _ h => hFc q h) hFc (fun r0 r_432 t H locs ht hvm hw hB hz1 hk1 hS => ?_)
        clear hvm hz1 hk1
        subst hw
        have hIo := hI
        obtain ⟨um_433, hum_433, ⟨tm_433, lm_433, ym_433, gm_433, hMo, hKM, hI, hT⟩⟩ := hB
        rw [ht] at hT
        have hF : ∀ q, tm_433 q ≠ 0 → s.heap.size ≤ q := fun q h => hFc q (hMo.2 q h)
        have hFo := hFo.kp hIo hKM (hum_433 1 (by decide)) (hum_433 2 (by decide)) (hum_433 9 (by decide))
        have hKM := hKM.to0
        have hJ := hJ.kp hKM hI.1
        have hW : IW (v 1) (v 2) (v 9) (ym_433 (a 89)) := by rw [hKM.fx hX (j := 89) (by decide) (by decide)]; exact hW
        have hTh : vb 38408 0 4800 (ym_433 (a 99)) := by rw [hKM.fx hX (j := 99) (by decide) (by decide)]; exact hTh
        have hX := hI.1
        have : um_433 2 = u 2 := hum_433 2 (by decide)
        have : um_433 9 = u 9 := hum_433 9 (by decide)
        refine lv_pop hx hb dL_law_1197 rfl ?_
        refine lv_aload_n hx hb dL_law_1198 rfl (lv_at hl 2 rfl) ?_
        refine lv_aload_n hx hb dL_law_1199 rfl (lv_at hl 0 rfl) ?_
        refine lv_iload hx hb dL_law_1200 (lv_at hl 4 rfl) ?_
        refine lv_iconst (v := 1) hx hb dL_law_1202 (by decide) ?_
        refine lv_iadd hx hb dL_law_1203 ?_
        refine lv_topi (fun x_434 ex_434 => ?_)
        have hx_434 := z_add ex_434 rfl (zk (x := 1) 1 rfl) (by omega) (by omega)
        refine va_sld hx hb hXs hbl hbA hS (z_in rfl (by omega) (by omega)) dL_law_1204 ?_
        refine lq_top (v := s1) (by rw [hs1]; exact congrArg xs (by rw [z_nat (x := x_434) rfl]; omega)) ?_
        refine lv_aload_n hx hb dL_law_1205 rfl (lv_at hl 0 rfl) ?_
        refine lv_iload hx hb dL_law_1206 (lv_at hl 4 rfl) ?_
        refine lv_iconst (v := 2) hx hb dL_law_1208 (by decide) ?_
        refine lv_iadd hx hb dL_law_1209 ?_
        refine lv_topi (fun x_435 ex_435 => ?_)
        have hx_435 := z_add ex_435 rfl (zk (x := 2) 2 rfl) (by omega) (by omega)
        refine va_sld hx hb hXs hbl hbA hS (z_in rfl (by omega) (by omega)) dL_law_1210 ?_
        refine lq_top (v := s2) (by rw [hs2]; exact congrArg xs (by rw [z_nat (x := x_435) rfl]; omega)) ?_
        have hFc := tw_free hF hS hA
        refine va_calli (va_runV (As := [.int s1, .int s2]) (rest := []) ⟨hx, hb, hml, hown, hts⟩ (m_plan l dC dI ad av H.size a k tm_433 lm_433 ym_433 gm_433 v s1 s2 hJ hTh hW) (cwV 2 hts (gi_4 (im_law _ (List.mem_of_getElem? (i := 152) rfl)) (im_law _ (List.mem_of_getElem? (i := 153) rfl)) (im_law _ (List.mem_of_getElem? (i := 154) rfl)) (im_law _ (List.mem_of_getElem? (i := 7) rfl)) im_m_plan gd_m_plan) rfl rfl rfl (by decide +kernel) ⟨Nat.le_of_ble_eq_true rfl, Nat.le_of_ble_eq_true rfl⟩) ⟨pw_blind, tw_recv hK hT (fx_50 hX) (by decide) cl_e60 rfl, pw_use hT hK hFc hS hM⟩ rfl rfl hl.1 rfl (lv_room (Nat.le_of_ble_eq_true rfl)) dL_law_1211 ⟨by show 200 + 4 * q + 0 + 0 ≤ 601024; omega, by show 60000 + 100 * q + 0 + 0 ≤ 7293034; omega⟩) hS (fun q _ h => hFc q h) hFc (fun r0 r_436 t H locs ht hvm hw hB hz1 hk1 hS => ?_)
        clear hvm hz1 hk1
        subst hw
        have hIo := hI
        obtain ⟨um_437, ym_437, gm_437, hum_437, hgm_437, hggm_437, hJ, hf_438, hT⟩ := hB
        rw [ht] at hT
        have hFo := hFo.m hIo hgm_437 (by decide) (hggm_437 (a 10) (by rw [fx_10 hX]; decide))
        have hI := hI.ag hgm_437 (by decide)
        have hI := hI.agg hggm_437
        have hW : IW (um_437 1) (um_437 2) (um_437 9) (ym_437 (a 89)) := by rw [hgm_437.at (fx_89 hX) (by decide)]; exact iw_u hW (hum_437 1 (by decide)) (hum_437 2 (by decide)) (hum_437 9 (by decide))
        have hTh := hf_438
        have : um_437 2 = v 2 := hum_437 2 (by decide)
        have : um_437 9 = v 9 := hum_437 9 (by decide)
        have : um_437 3 = v 3 := hum_437 3 (by decide)
        have : um_437 10 = v 10 := hum_437 10 (by decide)
        refine lv_pop hx hb dL_law_1214 rfl ?_
        refine lv_goto (tgt := 1360) hx hb dL_law_1215 (by decide) ?_
        obtain ⟨x_439, ex_439⟩ : ∃ y : Int32, y = i4 + Int32.ofInt 10 := ⟨_, rfl⟩
        have hx_439 := z_add ex_439 rfl (zk (x := Int32.ofInt 10) 10 rfl) (by omega) (by omega)
        refine lv_iinc (v := x_439) (lv' := [(4, .int x_439), (0, .ref b), (1, .ref (a 0)), (2, .ref (a 50)), (3, .ref (a 49))]) hx hb dL_law_1360 hl (k := 4) rfl ex_439.symm (by decide) rfl (fun ls hl => ?_)
        refine lv_goto (tgt := 23) hx hb dL_law_1363 (by decide) ?_
        refine W.widen (k := 200 + 4 * (q + 1)) (n := 60000 + 100 * (q + 1)) (by omega) (by omega) ?_
        exact ih (q + 1) x_439 tm_433 lm_433 ym_437 gm_437 um_433 um_437 H _ ls (by omega) hF hI hJ hW hTh hFo (by omega) (by omega) (by omega) (by omega) (by omega) hT hS (lv_sub hl [1, 2, 3, 4, 0] rfl)
      · refine lq_top (v := 26) t_5 ?_
        have nt_5 := z_eq rfl (zk (x := 26) 26 rfl) t_5
        refine lv_tableIn (tgt := 1218) hx hb dL_law_40 (by decide) (by decide) (off := 1178) (by decide) (by decide) ?_
        refine lv_aload_n hx hb dL_law_1218 rfl (lv_at hl 1 rfl) ?_
        refine lv_aload_n hx hb dL_law_1219 rfl (lv_at hl 0 rfl) ?_
        refine lv_iload hx hb dL_law_1220 (lv_at hl 4 rfl) ?_
        refine lv_iconst (v := 1) hx hb dL_law_1222 (by decide) ?_
        refine lv_iadd hx hb dL_law_1223 ?_
        refine lv_topi (fun x_440 ex_440 => ?_)
        have hx_440 := z_add ex_440 rfl (zk (x := 1) 1 rfl) (by omega) (by omega)
        refine va_sld hx hb hXs hbl hbA hS (z_in rfl (by omega) (by omega)) dL_law_1224 ?_
        refine lq_top (v := s1) (by rw [hs1]; exact congrArg xs (by rw [z_nat (x := x_440) rfl]; omega)) ?_
        refine lv_aload_n hx hb dL_law_1225 rfl (lv_at hl 0 rfl) ?_
        refine lv_iload hx hb dL_law_1226 (lv_at hl 4 rfl) ?_
        refine lv_iconst (v := 2) hx hb dL_law_1228 (by decide) ?_
        refine lv_iadd hx hb dL_law_1229 ?_
        refine lv_topi (fun x_441 ex_441 => ?_)
        have hx_441 := z_add ex_441 rfl (zk (x := 2) 2 rfl) (by omega) (by omega)
        refine va_sld hx hb hXs hbl hbA hS (z_in rfl (by omega) (by omega)) dL_law_1230 ?_
        refine lq_top (v := s2) (by rw [hs2]; exact congrArg xs (by rw [z_nat (x := x_441) rfl]; omega)) ?_
        have hFc := tw_free hF hS hA
        refine va_calli (va_runV (As := [.int s1, .int s2]) (rest := []) ⟨hx, hb, hml, hown, hts⟩ (c_lateness l dC dI ad av H.size a k τ ln y g u s1 s2 hI ) (cwV 2 hts (gi_4 (im_law _ (List.mem_of_getElem? (i := 155) rfl)) (im_law _ (List.mem_of_getElem? (i := 156) rfl)) (im_law _ (List.mem_of_getElem? (i := 157) rfl)) (im_law _ (List.mem_of_getElem? (i := 3) rfl)) im_c_lateness gd_c_lateness) rfl rfl rfl (by decide +kernel) ⟨Nat.le_of_ble_eq_true rfl, Nat.le_of_ble_eq_true rfl⟩) ⟨pw_blind, tw_recv hK hT (fx_0 hX) (by decide) cl_e10 rfl, pw_use hT hK hFc hS hM⟩ rfl rfl hl.1 rfl (lv_room (Nat.le_of_ble_eq_true rfl)) dL_law_1231 ⟨by show 200 + 4 * q + 0 ≤ 601024; omega, by show 60000 + 100 * q + 0 ≤ 7293034; omega⟩) hS (fun q _ h => hFc q h) hFc (fun r0 r_442 t H locs ht hvm hw hB hz1 hk1 hS => ?_)
        clear hvm hz1 hk1
        subst hw
        have hIo := hI
        obtain ⟨um_443, hum_443, ⟨tm_443, lm_443, ym_443, gm_443, hMo, hKM, hI, hT⟩⟩ := hB
        rw [ht] at hT
        have hF : ∀ q, tm_443 q ≠ 0 → s.heap.size ≤ q := fun q h => hFc q (hMo.2 q h)
        have hFo := hFo.kp hIo hKM (hum_443 1 (by decide)) (hum_443 2 (by decide)) (hum_443 9 (by decide))
        have hKM := hKM.to0
        have hJ := hJ.kp hKM hI.1
        have hW : IW (v 1) (v 2) (v 9) (ym_443 (a 89)) := by rw [hKM.fx hX (j := 89) (by decide) (by decide)]; exact hW
        have hTh : vb 38408 0 4800 (ym_443 (a 99)) := by rw [hKM.fx hX (j := 99) (by decide) (by decide)]; exact hTh
        have hX := hI.1
        have : um_443 2 = u 2 := hum_443 2 (by decide)
        have : um_443 9 = u 9 := hum_443 9 (by decide)
        refine lv_pop hx hb dL_law_1234 rfl ?_
        refine lv_aload_n hx hb dL_law_1235 rfl (lv_at hl 2 rfl) ?_
        refine lv_aload_n hx hb dL_law_1236 rfl (lv_at hl 0 rfl) ?_
        refine lv_iload hx hb dL_law_1237 (lv_at hl 4 rfl) ?_
        refine lv_iconst (v := 1) hx hb dL_law_1239 (by decide) ?_
        refine lv_iadd hx hb dL_law_1240 ?_
        refine lv_topi (fun x_444 ex_444 => ?_)
        have hx_444 := z_add ex_444 rfl (zk (x := 1) 1 rfl) (by omega) (by omega)
        refine va_sld hx hb hXs hbl hbA hS (z_in rfl (by omega) (by omega)) dL_law_1241 ?_
        refine lq_top (v := s1) (by rw [hs1]; exact congrArg xs (by rw [z_nat (x := x_444) rfl]; omega)) ?_
        refine lv_aload_n hx hb dL_law_1242 rfl (lv_at hl 0 rfl) ?_
        refine lv_iload hx hb dL_law_1243 (lv_at hl 4 rfl) ?_
        refine lv_iconst (v := 2) hx hb dL_law_1245 (by decide) ?_
        refine lv_iadd hx hb dL_law_1246 ?_
        refine lv_topi (fun x_445 ex_445 => ?_)
        have hx_445 := z_add ex_445 rfl (zk (x := 2) 2 rfl) (by omega) (by omega)
        refine va_sld hx hb hXs hbl hbA hS (z_in rfl (by omega) (by omega)) dL_law_1247 ?_
        refine lq_top (v := s2) (by rw [hs2]; exact congrArg xs (by rw [z_nat (x := x_445) rfl]; omega)) ?_
        have hFc := tw_free hF hS hA
        refine va_calli (va_runV (As := [.int s1, .int s2]) (rest := []) ⟨hx, hb, hml, hown, hts⟩ (m_lateness l dC dI ad av H.size a k tm_443 lm_443 ym_443 gm_443 v s1 s2 hJ hTh hW) (cwV 2 hts (gi_4 (im_law _ (List.mem_of_getElem? (i := 158) rfl)) (im_law _ (List.mem_of_getElem? (i := 159) rfl)) (im_law _ (List.mem_of_getElem? (i := 160) rfl)) (im_law _ (List.mem_of_getElem? (i := 7) rfl)) im_m_lateness gd_m_lateness) rfl rfl rfl (by decide +kernel) ⟨Nat.le_of_ble_eq_true rfl, Nat.le_of_ble_eq_true rfl⟩) ⟨pw_blind, tw_recv hK hT (fx_50 hX) (by decide) cl_e60 rfl, pw_use hT hK hFc hS hM⟩ rfl rfl hl.1 rfl (lv_room (Nat.le_of_ble_eq_true rfl)) dL_law_1248 ⟨by show 200 + 4 * q + 0 + 0 ≤ 601024; omega, by show 60000 + 100 * q + 0 + 0 ≤ 7293034; omega⟩) hS (fun q _ h => hFc q h) hFc (fun r0 r_446 t H locs ht hvm hw hB hz1 hk1 hS => ?_)
        clear hvm hz1 hk1
        subst hw
        have hIo := hI
        obtain ⟨ym_447, gm_447, hgm_447, hggm_447, hJ, hf_448, hT⟩ := hB
        rw [ht] at hT
        have hFo := hFo.m hIo hgm_447 (by decide) (hggm_447 (a 10) (by rw [fx_10 hX]; decide))
        have hI := hI.ag hgm_447 (by decide)
        have hI := hI.agg hggm_447
        have hW : IW (v 1) (v 2) (v 9) (ym_447 (a 89)) := by rw [hgm_447.at (fx_89 hX) (by decide)]; exact hW
        have hTh := hf_448
        refine lv_pop hx hb dL_law_1251 rfl ?_
        refine lv_goto (tgt := 1360) hx hb dL_law_1252 (by decide) ?_
        obtain ⟨x_449, ex_449⟩ : ∃ y : Int32, y = i4 + Int32.ofInt 10 := ⟨_, rfl⟩
        have hx_449 := z_add ex_449 rfl (zk (x := Int32.ofInt 10) 10 rfl) (by omega) (by omega)
        refine lv_iinc (v := x_449) (lv' := [(4, .int x_449), (0, .ref b), (1, .ref (a 0)), (2, .ref (a 50)), (3, .ref (a 49))]) hx hb dL_law_1360 hl (k := 4) rfl ex_449.symm (by decide) rfl (fun ls hl => ?_)
        refine lv_goto (tgt := 23) hx hb dL_law_1363 (by decide) ?_
        refine W.widen (k := 200 + 4 * (q + 1)) (n := 60000 + 100 * (q + 1)) (by omega) (by omega) ?_
        exact ih (q + 1) x_449 tm_443 lm_443 ym_447 gm_447 um_443 v H _ ls (by omega) hF hI hJ hW hTh hFo (by omega) (by omega) (by omega) (by omega) (by omega) hT hS (lv_sub hl [1, 2, 3, 4, 0] rfl)
      · refine lq_top (v := 27) t_5 ?_
        have nt_5 := z_eq rfl (zk (x := 27) 27 rfl) t_5
        refine lv_tableIn (tgt := 1255) hx hb dL_law_40 (by decide) (by decide) (off := 1215) (by decide) (by decide) ?_
        refine lv_aload_n hx hb dL_law_1255 rfl (lv_at hl 1 rfl) ?_
        refine lv_aload_n hx hb dL_law_1256 rfl (lv_at hl 0 rfl) ?_
        refine lv_iload hx hb dL_law_1257 (lv_at hl 4 rfl) ?_
        refine lv_iconst (v := 1) hx hb dL_law_1259 (by decide) ?_
        refine lv_iadd hx hb dL_law_1260 ?_
        refine lv_topi (fun x_450 ex_450 => ?_)
        have hx_450 := z_add ex_450 rfl (zk (x := 1) 1 rfl) (by omega) (by omega)
        refine va_sld hx hb hXs hbl hbA hS (z_in rfl (by omega) (by omega)) dL_law_1261 ?_
        refine lq_top (v := s1) (by rw [hs1]; exact congrArg xs (by rw [z_nat (x := x_450) rfl]; omega)) ?_
        refine lv_aload_n hx hb dL_law_1262 rfl (lv_at hl 0 rfl) ?_
        refine lv_iload hx hb dL_law_1263 (lv_at hl 4 rfl) ?_
        refine lv_iconst (v := 2) hx hb dL_law_1265 (by decide) ?_
        refine lv_iadd hx hb dL_law_1266 ?_
        refine lv_topi (fun x_451 ex_451 => ?_)
        have hx_451 := z_add ex_451 rfl (zk (x := 2) 2 rfl) (by omega) (by omega)
        refine va_sld hx hb hXs hbl hbA hS (z_in rfl (by omega) (by omega)) dL_law_1267 ?_
        refine lq_top (v := s2) (by rw [hs2]; exact congrArg xs (by rw [z_nat (x := x_451) rfl]; omega)) ?_
        have hFc := tw_free hF hS hA
        refine va_calli (va_runV (As := [.int s1, .int s2]) (rest := []) ⟨hx, hb, hml, hown, hts⟩ (c_tried l dC dI ad av H.size a k τ ln y g u s1 s2 hI ) (cwV 2 hts (gi_4 (im_law _ (List.mem_of_getElem? (i := 161) rfl)) (im_law _ (List.mem_of_getElem? (i := 162) rfl)) (im_law _ (List.mem_of_getElem? (i := 163) rfl)) (im_law _ (List.mem_of_getElem? (i := 3) rfl)) im_c_tried gd_c_tried) rfl rfl rfl (by decide +kernel) ⟨Nat.le_of_ble_eq_true rfl, Nat.le_of_ble_eq_true rfl⟩) ⟨pw_blind, tw_recv hK hT (fx_0 hX) (by decide) cl_e10 rfl, pw_use hT hK hFc hS hM⟩ rfl rfl hl.1 rfl (lv_room (Nat.le_of_ble_eq_true rfl)) dL_law_1268 ⟨by show 200 + 4 * q + 0 ≤ 601024; omega, by show 60000 + 100 * q + 0 ≤ 7293034; omega⟩) hS (fun q _ h => hFc q h) hFc (fun r0 r_452 t H locs ht hvm hw hB hz1 hk1 hS => ?_)
        clear hvm hz1 hk1
        subst hw
        have hIo := hI
        obtain ⟨um_453, hum_453, ⟨tm_453, lm_453, ym_453, gm_453, hMo, hKM, hI, hT⟩⟩ := hB
        rw [ht] at hT
        have hF : ∀ q, tm_453 q ≠ 0 → s.heap.size ≤ q := fun q h => hFc q (hMo.2 q h)
        have hFo := hFo.kp hIo hKM (hum_453 1 (by decide)) (hum_453 2 (by decide)) (hum_453 9 (by decide))
        have hKM := hKM.to0
        have hJ := hJ.kp hKM hI.1
        have hW : IW (v 1) (v 2) (v 9) (ym_453 (a 89)) := by rw [hKM.fx hX (j := 89) (by decide) (by decide)]; exact hW
        have hTh : vb 38408 0 4800 (ym_453 (a 99)) := by rw [hKM.fx hX (j := 99) (by decide) (by decide)]; exact hTh
        have hX := hI.1
        have : um_453 2 = u 2 := hum_453 2 (by decide)
        have : um_453 9 = u 9 := hum_453 9 (by decide)
        refine lv_pop hx hb dL_law_1271 rfl ?_
        refine lv_aload_n hx hb dL_law_1272 rfl (lv_at hl 2 rfl) ?_
        refine lv_aload_n hx hb dL_law_1273 rfl (lv_at hl 0 rfl) ?_
        refine lv_iload hx hb dL_law_1274 (lv_at hl 4 rfl) ?_
        refine lv_iconst (v := 1) hx hb dL_law_1276 (by decide) ?_
        refine lv_iadd hx hb dL_law_1277 ?_
        refine lv_topi (fun x_454 ex_454 => ?_)
        have hx_454 := z_add ex_454 rfl (zk (x := 1) 1 rfl) (by omega) (by omega)
        refine va_sld hx hb hXs hbl hbA hS (z_in rfl (by omega) (by omega)) dL_law_1278 ?_
        refine lq_top (v := s1) (by rw [hs1]; exact congrArg xs (by rw [z_nat (x := x_454) rfl]; omega)) ?_
        refine lv_aload_n hx hb dL_law_1279 rfl (lv_at hl 0 rfl) ?_
        refine lv_iload hx hb dL_law_1280 (lv_at hl 4 rfl) ?_
        refine lv_iconst (v := 2) hx hb dL_law_1282 (by decide) ?_
        refine lv_iadd hx hb dL_law_1283 ?_
        refine lv_topi (fun x_455 ex_455 => ?_)
        have hx_455 := z_add ex_455 rfl (zk (x := 2) 2 rfl) (by omega) (by omega)
        refine va_sld hx hb hXs hbl hbA hS (z_in rfl (by omega) (by omega)) dL_law_1284 ?_
        refine lq_top (v := s2) (by rw [hs2]; exact congrArg xs (by rw [z_nat (x := x_455) rfl]; omega)) ?_
        have hFc := tw_free hF hS hA
        refine va_calli (va_runV (As := [.int s1, .int s2]) (rest := []) ⟨hx, hb, hml, hown, hts⟩ (m_tried l dC dI ad av H.size a k tm_453 lm_453 ym_453 gm_453 v s1 s2 hJ h10 hW) (cwV 2 hts (gi_4 (im_law _ (List.mem_of_getElem? (i := 164) rfl)) (im_law _ (List.mem_of_getElem? (i := 165) rfl)) (im_law _ (List.mem_of_getElem? (i := 166) rfl)) (im_law _ (List.mem_of_getElem? (i := 7) rfl)) im_m_tried gd_m_tried) rfl rfl rfl (by decide +kernel) ⟨Nat.le_of_ble_eq_true rfl, Nat.le_of_ble_eq_true rfl⟩) ⟨pw_blind, tw_recv hK hT (fx_50 hX) (by decide) cl_e60 rfl, pw_use hT hK hFc hS hM⟩ rfl rfl hl.1 rfl (lv_room (Nat.le_of_ble_eq_true rfl)) dL_law_1285 ⟨by show 200 + 4 * q + 0 + 0 ≤ 601024; omega, by show 60000 + 100 * q + 0 + 0 ≤ 7293034; omega⟩) hS (fun q _ h => hFc q h) hFc (fun r0 r_456 t H locs ht hvm hw hB hz1 hk1 hS => ?_)
        clear hvm hz1 hk1
        subst hw
        have hIo := hI
        obtain ⟨um_457, ym_457, gm_457, hum_457, hgm_457, hggm_457, hJ, hW, hf_458, hf_459, hT⟩ := hB
        rw [ht] at hT
        have hFo := hFo.m hIo hgm_457 (by decide) (hggm_457 (a 10) (by rw [fx_10 hX]; decide))
        have hI := hI.ag hgm_457 (by decide)
        have hI := hI.agg hggm_457
        have hTh : vb 38408 0 4800 (ym_457 (a 99)) := by rw [hgm_457.at (fx_99 hX) (by decide)]; exact hTh
        have : um_457 2 = v 2 := hum_457 2 (by decide)
        have : um_457 3 = v 3 := hum_457 3 (by decide)
        refine lv_pop hx hb dL_law_1288 rfl ?_
        refine lv_goto (tgt := 1360) hx hb dL_law_1289 (by decide) ?_
        obtain ⟨x_460, ex_460⟩ : ∃ y : Int32, y = i4 + Int32.ofInt 10 := ⟨_, rfl⟩
        have hx_460 := z_add ex_460 rfl (zk (x := Int32.ofInt 10) 10 rfl) (by omega) (by omega)
        refine lv_iinc (v := x_460) (lv' := [(4, .int x_460), (0, .ref b), (1, .ref (a 0)), (2, .ref (a 50)), (3, .ref (a 49))]) hx hb dL_law_1360 hl (k := 4) rfl ex_460.symm (by decide) rfl (fun ls hl => ?_)
        refine lv_goto (tgt := 23) hx hb dL_law_1363 (by decide) ?_
        refine W.widen (k := 200 + 4 * (q + 1)) (n := 60000 + 100 * (q + 1)) (by omega) (by omega) ?_
        exact ih (q + 1) x_460 tm_453 lm_453 ym_457 gm_457 um_453 um_457 H _ ls (by omega) hF hI hJ hW hTh hFo (by omega) (by omega) (by omega) (by omega) (by omega) hT hS (lv_sub hl [1, 2, 3, 4, 0] rfl)
      · refine lq_top (v := 28) t_5 ?_
        have nt_5 := z_eq rfl (zk (x := 28) 28 rfl) t_5
        refine lv_tableIn (tgt := 1292) hx hb dL_law_40 (by decide) (by decide) (off := 1252) (by decide) (by decide) ?_
        refine lv_aload_n hx hb dL_law_1292 rfl (lv_at hl 1 rfl) ?_
        refine lv_aload_n hx hb dL_law_1293 rfl (lv_at hl 0 rfl) ?_
        refine lv_iload hx hb dL_law_1294 (lv_at hl 4 rfl) ?_
        refine lv_iconst (v := 1) hx hb dL_law_1296 (by decide) ?_
        refine lv_iadd hx hb dL_law_1297 ?_
        refine lv_topi (fun x_461 ex_461 => ?_)
        have hx_461 := z_add ex_461 rfl (zk (x := 1) 1 rfl) (by omega) (by omega)
        refine va_sld hx hb hXs hbl hbA hS (z_in rfl (by omega) (by omega)) dL_law_1298 ?_
        refine lq_top (v := s1) (by rw [hs1]; exact congrArg xs (by rw [z_nat (x := x_461) rfl]; omega)) ?_
        refine lv_aload_n hx hb dL_law_1299 rfl (lv_at hl 0 rfl) ?_
        refine lv_iload hx hb dL_law_1300 (lv_at hl 4 rfl) ?_
        refine lv_iconst (v := 2) hx hb dL_law_1302 (by decide) ?_
        refine lv_iadd hx hb dL_law_1303 ?_
        refine lv_topi (fun x_462 ex_462 => ?_)
        have hx_462 := z_add ex_462 rfl (zk (x := 2) 2 rfl) (by omega) (by omega)
        refine va_sld hx hb hXs hbl hbA hS (z_in rfl (by omega) (by omega)) dL_law_1304 ?_
        refine lq_top (v := s2) (by rw [hs2]; exact congrArg xs (by rw [z_nat (x := x_462) rfl]; omega)) ?_
        refine lv_aload_n hx hb dL_law_1305 rfl (lv_at hl 3 rfl) ?_
        have hFc := tw_free hF hS hA
        refine va_calli (vx_runSW (As := [.ref (a 0), .int s1, .int s2, .ref (a 49)]) (rest := []) ⟨hx, hb, hml, hown, hts⟩ (k_ill l hst dC dI ad av H.size a k τ ln y g u s1 s2 hI ) (vx_cwSW 4 hts (gi_3 (im_law _ (List.mem_of_getElem? (i := 167) rfl)) (im_law _ (List.mem_of_getElem? (i := 168) rfl)) (im_law _ (List.mem_of_getElem? (i := 52) rfl)) im_k_ill gd_k_ill) rfl rfl rfl (by decide +kernel) ⟨Nat.le_of_ble_eq_true rfl, Nat.le_of_ble_eq_true rfl⟩) ⟨pw_blind, pw_use hT hK hFc hS hM⟩ rfl rfl hl.1 rfl (lv_room (Nat.le_of_ble_eq_true rfl)) dL_law_1306 ⟨by show 200 + 4 * q + 1 ≤ 601024; omega, by show 60000 + 100 * q + 6 ≤ 7293034; omega⟩) hS (fun q _ h => hFc q h) hFc (fun r0 r_463 t H locs ht hvm hw hB hz1 hk1 hS => ?_)
        clear hvm hz1 hk1
        subst hw
        have hIo := hI
        obtain ⟨um_464, hum_464, ⟨tm_464, lm_464, ym_464, gm_464, hMo, hKM, hI, hT⟩⟩ := hB
        rw [ht] at hT
        have hF : ∀ q, tm_464 q ≠ 0 → s.heap.size ≤ q := fun q h => hFc q (hMo.2 q h)
        have hFo := hFo.kp hIo hKM (hum_464 1 (by decide)) (hum_464 2 (by decide)) (hum_464 9 (by decide))
        have hKM := hKM.to0
        have hJ := hJ.kp hKM hI.1
        have hW : IW (v 1) (v 2) (v 9) (ym_464 (a 89)) := by rw [hKM.fx hX (j := 89) (by decide) (by decide)]; exact hW
        have hTh : vb 38408 0 4800 (ym_464 (a 99)) := by rw [hKM.fx hX (j := 99) (by decide) (by decide)]; exact hTh
        have hX := hI.1
        have : um_464 2 = u 2 := hum_464 2 (by decide)
        have : um_464 9 = u 9 := hum_464 9 (by decide)
        refine lv_istore (lv' := [(5, .int r_463), (0, .ref b), (1, .ref (a 0)), (2, .ref (a 50)), (3, .ref (a 49)), (4, .int i4)]) hx hb dL_law_1309 hl (by decide) rfl (fun ls hl => ?_)
        refine lv_aload_n hx hb dL_law_1311 rfl (lv_at hl 3 rfl) ?_
        refine lv_aload_n hx hb dL_law_1312 rfl (lv_at hl 1 rfl) ?_
        refine lv_iload hx hb dL_law_1313 (lv_at hl 5 rfl) ?_
        refine lv_iconst (v := 1) hx hb dL_law_1315 (by decide) ?_
        refine lv_iadd hx hb dL_law_1316 ?_
        refine lv_topi (fun x_465 ex_465 => ?_)
        have hx_465 := z_add ex_465 rfl (zk (x := 1) 1 rfl) (by omega) (by omega)
        refine va_sld hx hb hXs hbl hbA hS (z_in rfl (by omega) (by omega)) dL_law_1317 ?_
        refine lq_top (v := s1) (by rw [hs1]; exact congrArg xs (by rw [z_nat (x := x_465) rfl]; omega)) ?_
        refine lv_aload_n hx hb dL_law_1318 rfl (lv_at hl 1 rfl) ?_
        refine lv_iload hx hb dL_law_1319 (lv_at hl 5 rfl) ?_
        refine lv_iconst (v := 2) hx hb dL_law_1321 (by decide) ?_
        refine lv_iadd hx hb dL_law_1322 ?_
        refine lv_topi (fun x_466 ex_466 => ?_)
        have hx_466 := z_add ex_466 rfl (zk (x := 2) 2 rfl) (by omega) (by omega)
        refine va_sld hx hb hXs hbl hbA hS (z_in rfl (by omega) (by omega)) dL_law_1323 ?_
        refine lq_top (v := s2) (by rw [hs2]; exact congrArg xs (by rw [z_nat (x := x_466) rfl]; omega)) ?_
        have hFc := tw_free hF hS hA
        refine va_calli (va_runV (As := [.int s1, .int s2]) (rest := []) ⟨hx, hb, hml, hown, hts⟩ (m_ill l dC dI ad av H.size a k tm_464 lm_464 ym_464 gm_464 v s1 s2 hJ h3 hW) (cwV 2 hts (gi_4 (im_law _ (List.mem_of_getElem? (i := 169) rfl)) (im_law _ (List.mem_of_getElem? (i := 170) rfl)) (im_law _ (List.mem_of_getElem? (i := 171) rfl)) (im_law _ (List.mem_of_getElem? (i := 7) rfl)) im_m_ill gd_m_ill) rfl rfl rfl (by decide +kernel) ⟨Nat.le_of_ble_eq_true rfl, Nat.le_of_ble_eq_true rfl⟩) ⟨pw_blind, tw_recv hK hT (fx_50 hX) (by decide) cl_e60 rfl, pw_use hT hK hFc hS hM⟩ rfl rfl hl.1 rfl (lv_room (Nat.le_of_ble_eq_true rfl)) dL_law_1324 ⟨by show 200 + 4 * q + 1 + 0 ≤ 601024; omega, by show 60000 + 100 * q + 6 + 0 ≤ 7293034; omega⟩) hS (fun q _ h => hFc q h) hFc (fun r0 r_467 t H locs ht hvm hw hB hz1 hk1 hS => ?_)
        clear hvm hz1 hk1
        subst hw
        have hIo := hI
        obtain ⟨um_468, ym_468, gm_468, hum_468, hgm_468, hggm_468, hJ, hW, hf_469, hf_470, hT⟩ := hB
        rw [ht] at hT
        have hFo := hFo.m hIo hgm_468 (by decide) (hggm_468 (a 10) (by rw [fx_10 hX]; decide))
        have hI := hI.ag hgm_468 (by decide)
        have hI := hI.agg hggm_468
        have hTh : vb 38408 0 4800 (ym_468 (a 99)) := by rw [hgm_468.at (fx_99 hX) (by decide)]; exact hTh
        have : um_468 2 = v 2 := hum_468 2 (by decide)
        have : um_468 10 = v 10 := hum_468 10 (by decide)
        refine lv_istore (lv' := [(6, .int r_467), (5, .int r_463), (0, .ref b), (1, .ref (a 0)), (2, .ref (a 50)), (3, .ref (a 49)), (4, .int i4)]) hx hb dL_law_1327 hl (by decide) rfl (fun ls hl => ?_)
        refine lv_goto (tgt := 1360) hx hb dL_law_1329 (by decide) ?_
        obtain ⟨x_471, ex_471⟩ : ∃ y : Int32, y = i4 + Int32.ofInt 10 := ⟨_, rfl⟩
        have hx_471 := z_add ex_471 rfl (zk (x := Int32.ofInt 10) 10 rfl) (by omega) (by omega)
        refine lv_iinc (v := x_471) (lv' := [(4, .int x_471), (6, .int r_467), (5, .int r_463), (0, .ref b), (1, .ref (a 0)), (2, .ref (a 50)), (3, .ref (a 49))]) hx hb dL_law_1360 hl (k := 6) rfl ex_471.symm (by decide) rfl (fun ls hl => ?_)
        refine lv_goto (tgt := 23) hx hb dL_law_1363 (by decide) ?_
        refine W.widen (k := 200 + 4 * (q + 1)) (n := 60000 + 100 * (q + 1)) (by omega) (by omega) ?_
        exact ih (q + 1) x_471 tm_464 lm_464 ym_468 gm_468 um_464 um_468 H _ ls (by omega) hF hI hJ hW hTh hFo (by omega) (by omega) (by omega) (by omega) (by omega) hT hS (lv_sub hl [3, 4, 5, 6, 0] rfl)
      · refine lq_top (v := 29) t_5 ?_
        have nt_5 := z_eq rfl (zk (x := 29) 29 rfl) t_5
        refine lv_tableIn (tgt := 1332) hx hb dL_law_40 (by decide) (by decide) (off := 1292) (by decide) (by decide) ?_
        refine lv_aload_n hx hb dL_law_1332 rfl (lv_at hl 1 rfl) ?_
        refine lv_aload_n hx hb dL_law_1333 rfl (lv_at hl 0 rfl) ?_
        refine lv_iload hx hb dL_law_1334 (lv_at hl 4 rfl) ?_
        refine lv_iconst (v := 1) hx hb dL_law_1336 (by decide) ?_
        refine lv_iadd hx hb dL_law_1337 ?_
        refine lv_topi (fun x_472 ex_472 => ?_)
        have hx_472 := z_add ex_472 rfl (zk (x := 1) 1 rfl) (by omega) (by omega)
        refine va_sld hx hb hXs hbl hbA hS (z_in rfl (by omega) (by omega)) dL_law_1338 ?_
        refine lq_top (v := s1) (by rw [hs1]; exact congrArg xs (by rw [z_nat (x := x_472) rfl]; omega)) ?_
        refine lv_aload_n hx hb dL_law_1339 rfl (lv_at hl 3 rfl) ?_
        have hFc := tw_free hF hS hA
        refine va_calli (vx_runSW (As := [.ref (a 0), .int s1, .ref (a 49)]) (rest := []) ⟨hx, hb, hml, hown, hts⟩ (k_row l hst dC dI ad av H.size a k τ ln y g u s1 hI ) (vx_cwSW 3 hts (gi_3 (im_law _ (List.mem_of_getElem? (i := 172) rfl)) (im_law _ (List.mem_of_getElem? (i := 173) rfl)) (im_law _ (List.mem_of_getElem? (i := 52) rfl)) im_k_row gd_k_row) rfl rfl rfl (by decide +kernel) ⟨Nat.le_of_ble_eq_true rfl, Nat.le_of_ble_eq_true rfl⟩) ⟨pw_blind, pw_use hT hK hFc hS hM⟩ rfl rfl hl.1 rfl (lv_room (Nat.le_of_ble_eq_true rfl)) dL_law_1340 ⟨by show 200 + 4 * q + 1 ≤ 601024; omega, by show 60000 + 100 * q + 6 ≤ 7293034; omega⟩) hS (fun q _ h => hFc q h) hFc (fun r0 r_473 t H locs ht hvm hw hB hz1 hk1 hS => ?_)
        clear hvm hz1 hk1
        subst hw
        have hIo := hI
        obtain ⟨um_474, hum_474, ⟨tm_474, lm_474, ym_474, gm_474, hMo, hKM, hI, hT⟩⟩ := hB
        rw [ht] at hT
        have hF : ∀ q, tm_474 q ≠ 0 → s.heap.size ≤ q := fun q h => hFc q (hMo.2 q h)
        have hFo := hFo.kp hIo hKM (hum_474 1 (by decide)) (hum_474 2 (by decide)) (hum_474 9 (by decide))
        have hKM := hKM.to0
        have hJ := hJ.kp hKM hI.1
        have hW : IW (v 1) (v 2) (v 9) (ym_474 (a 89)) := by rw [hKM.fx hX (j := 89) (by decide) (by decide)]; exact hW
        have hTh : vb 38408 0 4800 (ym_474 (a 99)) := by rw [hKM.fx hX (j := 99) (by decide) (by decide)]; exact hTh
        have hX := hI.1
        have : um_474 2 = u 2 := hum_474 2 (by decide)
        have : um_474 9 = u 9 := hum_474 9 (by decide)
        refine lv_istore (lv' := [(5, .int r_473), (0, .ref b), (1, .ref (a 0)), (2, .ref (a 50)), (3, .ref (a 49)), (4, .int i4)]) hx hb dL_law_1343 hl (by decide) rfl (fun ls hl => ?_)
        refine lv_aload_n hx hb dL_law_1345 rfl (lv_at hl 3 rfl) ?_
        refine lv_aload_n hx hb dL_law_1346 rfl (lv_at hl 1 rfl) ?_
        refine lv_iload hx hb dL_law_1347 (lv_at hl 5 rfl) ?_
        refine lv_iconst (v := 1) hx hb dL_law_1349 (by decide) ?_
        refine lv_iadd hx hb dL_law_1350 ?_
        refine lv_topi (fun x_475 ex_475 => ?_)
        have hx_475 := z_add ex_475 rfl (zk (x := 1) 1 rfl) (by omega) (by omega)
        refine va_sld hx hb hXs hbl hbA hS (z_in rfl (by omega) (by omega)) dL_law_1351 ?_
        refine lq_top (v := s1) (by rw [hs1]; exact congrArg xs (by rw [z_nat (x := x_475) rfl]; omega)) ?_
        have hFc := tw_free hF hS hA
        refine va_calli (va_runV (As := [.int s1]) (rest := []) ⟨hx, hb, hml, hown, hts⟩ (m_row l dC dI ad av H.size a k tm_474 lm_474 ym_474 gm_474 v s1 hJ hW) (cwV 1 hts (gi_4 (im_law _ (List.mem_of_getElem? (i := 174) rfl)) (im_law _ (List.mem_of_getElem? (i := 175) rfl)) (im_law _ (List.mem_of_getElem? (i := 176) rfl)) (im_law _ (List.mem_of_getElem? (i := 7) rfl)) im_m_row gd_m_row) rfl rfl rfl (by decide +kernel) ⟨Nat.le_of_ble_eq_true rfl, Nat.le_of_ble_eq_true rfl⟩) ⟨pw_blind, tw_recv hK hT (fx_50 hX) (by decide) cl_e60 rfl, pw_use hT hK hFc hS hM⟩ rfl rfl hl.1 rfl (lv_room (Nat.le_of_ble_eq_true rfl)) dL_law_1352 ⟨by show 200 + 4 * q + 1 + 0 ≤ 601024; omega, by show 60000 + 100 * q + 6 + 0 ≤ 7293034; omega⟩) hS (fun q _ h => hFc q h) hFc (fun r0 r_476 t H locs ht hvm hw hB hz1 hk1 hS => ?_)
        clear hvm hz1 hk1
        subst hw
        have hIo := hI
        obtain ⟨ym_477, gm_477, hgm_477, hggm_477, hJ, hT⟩ := hB
        rw [ht] at hT
        have hFo := hFo.m hIo hgm_477 (by decide) (hggm_477 (a 10) (by rw [fx_10 hX]; decide))
        have hI := hI.ag hgm_477 (by decide)
        have hI := hI.agg hggm_477
        have hW : IW (v 1) (v 2) (v 9) (ym_477 (a 89)) := by rw [hgm_477.at (fx_89 hX) (by decide)]; exact hW
        have hTh : vb 38408 0 4800 (ym_477 (a 99)) := by rw [hgm_477.at (fx_99 hX) (by decide)]; exact hTh
        refine lv_istore (lv' := [(6, .int r_476), (5, .int r_473), (0, .ref b), (1, .ref (a 0)), (2, .ref (a 50)), (3, .ref (a 49)), (4, .int i4)]) hx hb dL_law_1355 hl (by decide) rfl (fun ls hl => ?_)
        refine lv_goto (tgt := 1360) hx hb dL_law_1357 (by decide) ?_
        obtain ⟨x_478, ex_478⟩ : ∃ y : Int32, y = i4 + Int32.ofInt 10 := ⟨_, rfl⟩
        have hx_478 := z_add ex_478 rfl (zk (x := Int32.ofInt 10) 10 rfl) (by omega) (by omega)
        refine lv_iinc (v := x_478) (lv' := [(4, .int x_478), (6, .int r_476), (5, .int r_473), (0, .ref b), (1, .ref (a 0)), (2, .ref (a 50)), (3, .ref (a 49))]) hx hb dL_law_1360 hl (k := 6) rfl ex_478.symm (by decide) rfl (fun ls hl => ?_)
        refine lv_goto (tgt := 23) hx hb dL_law_1363 (by decide) ?_
        refine W.widen (k := 200 + 4 * (q + 1)) (n := 60000 + 100 * (q + 1)) (by omega) (by omega) ?_
        exact ih (q + 1) x_478 tm_474 lm_474 ym_477 gm_477 um_474 v H _ ls (by omega) hF hI hJ hW hTh hFo (by omega) (by omega) (by omega) (by omega) (by omega) hT hS (lv_sub hl [3, 4, 5, 6, 0] rfl)
      · refine lv_tableOut (tgt := 1360) hx hb dL_law_40 t_5 (by decide) ?_
        obtain ⟨x_479, ex_479⟩ : ∃ y : Int32, y = i4 + Int32.ofInt 10 := ⟨_, rfl⟩
        have hx_479 := z_add ex_479 rfl (zk (x := Int32.ofInt 10) 10 rfl) (by omega) (by omega)
        refine lv_iinc (v := x_479) (lv' := [(4, .int x_479), (0, .ref b), (1, .ref (a 0)), (2, .ref (a 50)), (3, .ref (a 49))]) hx hb dL_law_1360 hl (k := 4) rfl ex_479.symm (by decide) rfl (fun ls hl => ?_)
        refine lv_goto (tgt := 23) hx hb dL_law_1363 (by decide) ?_
        refine W.widen (k := 200 + 4 * (q + 1)) (n := 60000 + 100 * (q + 1)) (by omega) (by omega) ?_
        exact ih (q + 1) x_479 τ ln y g u v H _ ls (by omega) hF hI hJ hW hTh hFo (by omega) (by omega) (by omega) (by omega) (by omega) hT hS (lv_sub hl [1, 2, 3, 4, 0] rfl)
