def wo_law : List Cond := [.methodLink RL 35 yX11_post, .instanceMethod yX11_post, .selects RX11 yX11_post yX11_post, .initialized RX11, .methodLink RL 38 yX12_post, .instanceMethod yX12_post, .selects RX12 yX12_post yX12_post, .initialized RX12, .methodLink RL 39 yX11_hand, .instanceMethod yX11_hand, .selects RX11 yX11_hand yX11_hand, .methodLink RL 43 yX12_hand, .instanceMethod yX12_hand, .selects RX12 yX12_hand yX12_hand, .methodLink RL 44 yX11_away, .instanceMethod yX11_away, .selects RX11 yX11_away yX11_away, .methodLink RL 48 yX12_away, .instanceMethod yX12_away, .selects RX12 yX12_away yX12_away, .methodLink RL 49 yX11_piece, .instanceMethod yX11_piece, .selects RX11 yX11_piece yX11_piece, .methodLink RL 53 yX12_piece__, .instanceMethod yX12_piece__, .selects RX12 yX12_piece__ yX12_piece__, .methodLink RL 54 yX11_sign, .instanceMethod yX11_sign, .selects RX11 yX11_sign yX11_sign, .methodLink RL 57 yX12_sign, .instanceMethod yX12_sign, .selects RX12 yX12_sign yX12_sign, .methodLink RL 58 yX11_end, .instanceMethod yX11_end, .selects RX11 yX11_end yX11_end, .methodLink RL 62 yX12_end, .instanceMethod yX12_end, .selects RX12 yX12_end yX12_end, .methodLink RL 63 yX11_rule, .instanceMethod yX11_rule, .selects RX11 yX11_rule yX11_rule, .methodLink RL 66 yX12_rule, .instanceMethod yX12_rule, .selects RX12 yX12_rule yX12_rule, .methodLink RL 67 yX11_step, .instanceMethod yX11_step, .selects RX11 yX11_step yX11_step, .methodLink RL 70 yX12_step, .instanceMethod yX12_step, .selects RX12 yX12_step yX12_step, .methodLink RL 71 yL_of, .static yL_of, .initialized RL, .methodLink RL 76 yX12_of, .instanceMethod yX12_of, .selects RX12 yX12_of yX12_of, .methodLink RL 77 yX11_at, .instanceMethod yX11_at, .selects RX11 yX11_at yX11_at, .methodLink RL 80 yX12_at, .instanceMethod yX12_at, .selects RX12 yX12_at yX12_at, .methodLink RL 81 yX11_may, .instanceMethod yX11_may, .selects RX11 yX11_may yX11_may, .methodLink RL 84 yX12_may, .instanceMethod yX12_may, .selects RX12 yX12_may yX12_may, .methodLink RL 85 yL_order, .static yL_order, .methodLink RL 87 yX12_order, .instanceMethod yX12_order, .selects RX12 yX12_order yX12_order, .methodLink RL 88 yX11_goes, .instanceMethod yX11_goes, .selects RX11 yX11_goes yX11_goes, .methodLink RL 91 yX12_goes, .instanceMethod yX12_goes, .selects RX12 yX12_goes yX12_goes, .methodLink RL 92 yX11_count, .instanceMethod yX11_count, .selects RX11 yX11_count yX11_count, .methodLink RL 95 yX12_count, .instanceMethod yX12_count, .selects RX12 yX12_count yX12_count, .methodLink RL 96 yX11_correct, .instanceMethod yX11_correct, .selects RX11 yX11_correct yX11_correct, .methodLink RL 100 yX12_correct, .instanceMethod yX12_correct, .selects RX12 yX12_correct yX12_correct, .methodLink RL 101 yX11_undo, .instanceMethod yX11_undo, .selects RX11 yX11_undo yX11_undo, .methodLink RL 105 yX12_undo, .instanceMethod yX12_undo, .selects RX12 yX12_undo yX12_undo, .methodLink RL 106 yX11_as, .instanceMethod yX11_as, .selects RX11 yX11_as yX11_as, .methodLink RL 109 yX12_as, .instanceMethod yX12_as, .selects RX12 yX12_as yX12_as, .methodLink RL 110 yX11_fault, .instanceMethod yX11_fault, .selects RX11 yX11_fault yX11_fault, .methodLink RL 113 yX12_fault, .instanceMethod yX12_fault, .selects RX12 yX12_fault yX12_fault, .methodLink RL 114 yX11_faults, .instanceMethod yX11_faults, .selects RX11 yX11_faults yX11_faults, .methodLink RL 117 yX12_faults, .instanceMethod yX12_faults, .selects RX12 yX12_faults yX12_faults, .methodLink RL 118 yL_pay, .static yL_pay, .methodLink RL 121 yX12_pay, .instanceMethod yX12_pay, .selects RX12 yX12_pay yX12_pay, .methodLink RL 122 yL_earns, .static yL_earns, .methodLink RL 124 yX12_earns, .instanceMethod yX12_earns, .selects RX12 yX12_earns yX12_earns, .methodLink RL 125 yX11_slips, .instanceMethod yX11_slips, .selects RX11 yX11_slips yX11_slips, .methodLink RL 129 yX12_slips, .instanceMethod yX12_slips, .selects RX12 yX12_slips yX12_slips, .methodLink RL 130 yX11_left, .instanceMethod yX11_left, .selects RX11 yX11_left yX11_left, .methodLink RL 133 yX12_left, .instanceMethod yX12_left, .selects RX12 yX12_left yX12_left, .methodLink RL 134 yX11_quick, .instanceMethod yX11_quick, .selects RX11 yX11_quick yX11_quick, .methodLink RL 137 yX12_quick, .instanceMethod yX12_quick, .selects RX12 yX12_quick yX12_quick, .methodLink RL 138 yX11_claims, .instanceMethod yX11_claims, .selects RX11 yX11_claims yX11_claims, .methodLink RL 141 yX12_claims, .instanceMethod yX12_claims, .selects RX12 yX12_claims yX12_claims, .methodLink RL 142 yX11_plan, .instanceMethod yX11_plan, .selects RX11 yX11_plan yX11_plan, .methodLink RL 145 yX12_plan, .instanceMethod yX12_plan, .selects RX12 yX12_plan yX12_plan, .methodLink RL 146 yX11_lateness, .instanceMethod yX11_lateness, .selects RX11 yX11_lateness yX11_lateness, .methodLink RL 149 yX12_lateness, .instanceMethod yX12_lateness, .selects RX12 yX12_lateness yX12_lateness, .methodLink RL 150 yX11_tried, .instanceMethod yX11_tried, .selects RX11 yX11_tried yX11_tried, .methodLink RL 153 yX12_tried, .instanceMethod yX12_tried, .selects RX12 yX12_tried yX12_tried, .methodLink RL 154 yL_ill, .static yL_ill, .methodLink RL 156 yX12_ill, .instanceMethod yX12_ill, .selects RX12 yX12_ill yX12_ill, .methodLink RL 157 yL_row, .static yL_row, .methodLink RL 159 yX12_row, .instanceMethod yX12_row, .selects RX12 yX12_row yX12_row]
set_option maxRecDepth 20000 in
theorem im_law : ∀ w ∈ wo_law, w ∈ lw_tbl := in_r _ [590, 591, 592, 70, 1416, 1417, 1418, 86, 597, 598, 599, 1423, 1424, 1425, 625, 626, 627, 1432, 1433, 1434, 656, 657, 658, 1444, 1445, 1446, 727, 728, 729, 1456, 1457, 1458, 731, 732, 733, 1460, 1461, 1462, 735, 736, 737, 1464, 1465, 1466, 743, 744, 745, 1524, 1525, 1526, 1082, 1083, 69, 1584, 1585, 1586, 855, 856, 857, 1592, 1593, 1594, 870, 871, 872, 1604, 1605, 1606, 1161, 1162, 1608, 1609, 1610, 875, 876, 877, 1612, 1613, 1614, 883, 884, 885, 1616, 1617, 1618, 896, 897, 898, 1624, 1625, 1626, 932, 933, 934, 1628, 1629, 1630, 940, 941, 942, 1632, 1633, 1634, 944, 945, 946, 1636, 1637, 1638, 958, 959, 960, 1648, 1649, 1650, 1170, 1171, 1652, 1653, 1654, 1183, 1184, 1660, 1661, 1662, 976, 977, 978, 1664, 1665, 1666, 980, 981, 982, 1668, 1669, 1670, 989, 990, 991, 1672, 1673, 1674, 1003, 1004, 1005, 1676, 1677, 1678, 1015, 1016, 1017, 1684, 1685, 1686, 1065, 1066, 1067, 1711, 1712, 1713, 1069, 1070, 1071, 1715, 1716, 1717, 1196, 1197, 1727, 1728, 1729, 1204, 1205, 1731, 1732, 1733] (by decide +kernel)
set_option maxHeartbeats 40000000 in
set_option maxRecDepth 100000 in
/-- THE LAW'S LOOP -/
theorem law_loop {p : Program} {e : Env} {s : State} {m : MethodId} {below : List Frame} {meth : Method} {c : Code} (l : Launch) (hst : l.stackTraces = false) {b L : Nat} {xs : Nat → Int32} (hL : L ≤ 5120) (C0 : lw_At p s m meth c b L xs) (dC : Nat → ClassId) (dI : Nat → Nat → Nat) (ad av : Nat → Nat) (a : Nat → Nat) (k : Nat → ClassId) (hK : va_K (dC, dI) vwCl (tyl k) s) (hM : am_ok ad av (fun q : Nat => s.heap.size ≤ q) s s.heap) :
    ∀ (n q : Nat) (i4 : Int32) (τ ln : Nat → Nat) (y : Nat → Nat → Int32) (g : Nat → Nat → Option Nat) (u v : Nat → Int) (H : Heap) (locs : List Loc) (ls : Array Slot), 513 - q < n → (∀ q, τ q ≠ 0 → s.heap.size ≤ q) → IC a u τ ln y g → IM a v τ y → IW (v 1) (v 2) (v 9) (y (a 89)) → vb 38408 0 4800 (y (a 99)) → FLo a u g y → v 10 = -1 → v 3 ≤ 30 → (u 2 = v 2 ∧ u 9 = v 9) → i4.toInt = 10 * (q : Int) → q ≤ 512 → tw (dC, dI) a k τ ln y g H → va_S (fun q : Nat => s.heap.size ≤ q) s.heap H locs → lv_has ls 7 [(0, .ref b), (1, .ref (a 0)), (2, .ref (a 50)), (3, .ref (a 49)), (4, .int i4)] →
      W p l e room_1 s m #[Value.ref b] below meth c H locs (200 + 4 * q) (60000 + 100 * q) (lw_Z below #[Value.ref b] s) (F0 m 23 ls []) := by
  obtain ⟨hx, hb, hr, hml, hown, hts, hXs, hbl, hlocks, hgv⟩ := id C0
  have hA : ∀ q : Nat, s.heap.size ≤ q → (fun q : Nat => s.heap.size ≤ q) q := fun _ h => h
  have hbA : ¬ (fun q : Nat => s.heap.size ≤ q) b := Nat.not_le.mpr hbl
  intro n
  induction n with
  | zero => intro q i4 τ ln y g u v H locs ls hlt; exact absurd hlt (Nat.not_lt_zero _)
  | succ n ih =>
    intro q i4 τ ln y g u v H locs ls hlt hF hI hJ hW hTh hFo h10 h3 hrel hq hqL hT hS hl
    have hX := hI.1
    obtain ⟨s1, hs1⟩ : ∃ z, z = xs (10 * q + 1) := ⟨_, rfl⟩
    obtain ⟨s2, hs2⟩ : ∃ z, z = xs (10 * q + 2) := ⟨_, rfl⟩
    obtain ⟨s3, hs3⟩ : ∃ z, z = xs (10 * q + 3) := ⟨_, rfl⟩
    obtain ⟨s4, hs4⟩ : ∃ z, z = xs (10 * q + 4) := ⟨_, rfl⟩
    obtain ⟨s5, hs5⟩ : ∃ z, z = xs (10 * q + 5) := ⟨_, rfl⟩
    obtain ⟨s6, hs6⟩ : ∃ z, z = xs (10 * q + 6) := ⟨_, rfl⟩
    obtain ⟨s7, hs7⟩ : ∃ z, z = xs (10 * q + 7) := ⟨_, rfl⟩
    obtain ⟨s8, hs8⟩ : ∃ z, z = xs (10 * q + 8) := ⟨_, rfl⟩
    obtain ⟨s9, hs9⟩ : ∃ z, z = xs (10 * q + 9) := ⟨_, rfl⟩
    refine lv_iload hx hb dL_law_23 (lv_at hl 4 rfl) ?_
    refine lv_aload_n hx hb dL_law_25 rfl (lv_at hl 0 rfl) ?_
    refine va_slen hx hb hXs hbl hbA hS dL_law_26 ?_
    refine lv_bipush (v := 10) hx hb dL_law_27 (by decide) ?_
    refine lv_isub hx hb dL_law_29 ?_
    refine lv_topi (fun x_1 ex_1 => ?_)
    have hx_1 := z_sub ex_1 (z_of L (by omega)) (zk (x := 10) 10 rfl) (by omega) (by omega)
    refine lv_icmp_gt (tgt := 1366) hx hb dL_law_30 (by decide) (fun c_2 => ?_) (fun c_2 => ?_)
    · have nc_2 := z_lt rfl rfl c_2
      refine lv_iconst (v := 1) hx hb dL_law_1366 (by decide) ?_
      refine va_forget (fun q hq => hS.2.2 q hq) ?_
      refine W.widen (k := 601024) (n := 7293034) (by omega) (by omega) ?_
      exact lw_ret hx hb hr hlocks dL_law_1367
    · have nc_2 := z_nlt rfl rfl c_2
      refine lv_aload_n hx hb dL_law_33 rfl (lv_at hl 0 rfl) ?_
      refine lv_iload hx hb dL_law_34 (lv_at hl 4 rfl) ?_
      refine va_sld hx hb hXs hbl hbA hS (z_in rfl (by omega) (by omega)) dL_law_36 ?_
      refine lv_topi (fun x_3 ex_3 => ?_)
      refine lv_bipush (v := 31) hx hb dL_law_37 (by decide) ?_
      refine lv_iand hx hb dL_law_39 ?_
      refine lv_topi (fun x_4 ex_4 => ?_)
      have hx_4 := z_and (x := x_3) (zk (x := 31) 31 rfl) (by omega)
      rw [← ex_4] at hx_4
      rcases tb_0_29 x_4 with t_5 | t_5 | t_5 | t_5 | t_5 | t_5 | t_5 | t_5 | t_5 | t_5 | t_5 | t_5 | t_5 | t_5 | t_5 | t_5 | t_5 | t_5 | t_5 | t_5 | t_5 | t_5 | t_5 | t_5 | t_5 | t_5 | t_5 | t_5 | t_5 | t_5 | t_5
      · refine lq_top (v := 0) t_5 ?_
        have nt_5 := z_eq rfl (zk (x := 0) 0 rfl) t_5
        refine lv_tableIn (tgt := 176) hx hb dL_law_40 (by decide) (by decide) (off := 136) (by decide) (by decide) ?_
        refine lv_aload_n hx hb dL_law_176 rfl (lv_at hl 1 rfl) ?_
        refine lv_aload_n hx hb dL_law_177 rfl (lv_at hl 0 rfl) ?_
        refine lv_iload hx hb dL_law_178 (lv_at hl 4 rfl) ?_
        refine lv_iconst (v := 1) hx hb dL_law_180 (by decide) ?_
        refine lv_iadd hx hb dL_law_181 ?_
        refine lv_topi (fun x_6 ex_6 => ?_)
        have hx_6 := z_add ex_6 rfl (zk (x := 1) 1 rfl) (by omega) (by omega)
        refine va_sld hx hb hXs hbl hbA hS (z_in rfl (by omega) (by omega)) dL_law_182 ?_
        refine lq_top (v := s1) (by rw [hs1]; exact congrArg xs (by rw [z_nat (x := x_6) rfl]; omega)) ?_
        have hFc := tw_free hF hS hA
        refine va_calli (va_runV (As := [.int s1]) (rest := []) ⟨hx, hb, hml, hown, hts⟩ (c_post l dC dI ad av H.size a k τ ln y g u s1 hI ) (cwV 1 hts (gi_4 (im_law _ (List.mem_of_getElem? (i := 0) rfl)) (im_law _ (List.mem_of_getElem? (i := 1) rfl)) (im_law _ (List.mem_of_getElem? (i := 2) rfl)) (im_law _ (List.mem_of_getElem? (i := 3) rfl)) im_c_post gd_c_post) rfl rfl rfl (by decide +kernel) ⟨Nat.le_of_ble_eq_true rfl, Nat.le_of_ble_eq_true rfl⟩) ⟨pw_blind, tw_recv hK hT (fx_0 hX) (by decide) cl_e10 rfl, pw_use hT hK hFc hS hM⟩ rfl rfl hl.1 rfl (lv_room (Nat.le_of_ble_eq_true rfl)) dL_law_183 ⟨by show 200 + 4 * q + 0 ≤ 601024; omega, by show 60000 + 100 * q + 0 ≤ 7293034; omega⟩) hS (fun q _ h => hFc q h) hFc (fun r0 r_7 t H locs ht hvm hw hB hz1 hk1 hS => ?_)
        clear hvm hz1 hk1
        subst hw
        have hIo := hI
        rcases hB with ⟨um_8, hre, hum_8, hf_9, ⟨tm_8, lm_8, ym_8, gm_8, hMo, hKM, hI, hT⟩⟩ | ⟨um_10, hum_10, hf_11, hf_12, hf_13, ⟨tm_10, lm_10, ym_10, gm_10, hMo, hKM, hI, hT⟩⟩
        · refine lq_top (v := (-1)) hre ?_
          rw [ht] at hT
          have hF : ∀ q, tm_8 q ≠ 0 → s.heap.size ≤ q := fun q h => hFc q (hMo.2 q h)
          have hFo := hFo.kp hIo hKM (hum_8 1 (by decide)) (hum_8 2 (by decide)) (hum_8 9 (by decide))
          have hKM := hKM.to0
          have hJ := hJ.kp hKM hI.1
          have hW : IW (v 1) (v 2) (v 9) (ym_8 (a 89)) := by rw [hKM.fx hX (j := 89) (by decide) (by decide)]; exact hW
          have hTh : vb 38408 0 4800 (ym_8 (a 99)) := by rw [hKM.fx hX (j := 99) (by decide) (by decide)]; exact hTh
          have hX := hI.1
          have : um_8 2 = u 2 := hum_8 2 (by decide)
          have : um_8 9 = u 9 := hum_8 9 (by decide)
          refine lv_pop hx hb dL_law_186 rfl ?_
          refine lv_aload_n hx hb dL_law_187 rfl (lv_at hl 2 rfl) ?_
          refine lv_aload_n hx hb dL_law_188 rfl (lv_at hl 0 rfl) ?_
          refine lv_iload hx hb dL_law_189 (lv_at hl 4 rfl) ?_
          refine lv_iconst (v := 1) hx hb dL_law_191 (by decide) ?_
          refine lv_iadd hx hb dL_law_192 ?_
          refine lv_topi (fun x_14 ex_14 => ?_)
          have hx_14 := z_add ex_14 rfl (zk (x := 1) 1 rfl) (by omega) (by omega)
          refine va_sld hx hb hXs hbl hbA hS (z_in rfl (by omega) (by omega)) dL_law_193 ?_
          refine lq_top (v := s1) (by rw [hs1]; exact congrArg xs (by rw [z_nat (x := x_14) rfl]; omega)) ?_
          have hFc := tw_free hF hS hA
          refine va_calli (va_runV (As := [.int s1]) (rest := []) ⟨hx, hb, hml, hown, hts⟩ (m_post l dC dI ad av H.size a k tm_8 lm_8 ym_8 gm_8 v s1 hJ hW) (cwV 1 hts (gi_4 (im_law _ (List.mem_of_getElem? (i := 4) rfl)) (im_law _ (List.mem_of_getElem? (i := 5) rfl)) (im_law _ (List.mem_of_getElem? (i := 6) rfl)) (im_law _ (List.mem_of_getElem? (i := 7) rfl)) im_m_post gd_m_post) rfl rfl rfl (by decide +kernel) ⟨Nat.le_of_ble_eq_true rfl, Nat.le_of_ble_eq_true rfl⟩) ⟨pw_blind, tw_recv hK hT (fx_50 hX) (by decide) cl_e60 rfl, pw_use hT hK hFc hS hM⟩ rfl rfl hl.1 rfl (lv_room (Nat.le_of_ble_eq_true rfl)) dL_law_194 ⟨by show 200 + 4 * q + 0 + 0 ≤ 601024; omega, by show 60000 + 100 * q + 0 + 0 ≤ 7293034; omega⟩) hS (fun q _ h => hFc q h) hFc (fun r0 r_15 t H locs ht hvm hw hB hz1 hk1 hS => ?_)
          clear hvm hz1 hk1
          subst hw
          have hIo := hI
          rcases hB with ⟨um_16, ym_16, gm_16, hre, hum_16, hgm_16, hggm_16, hJ, hf_17, hf_18, hT⟩ | ⟨um_19, ym_19, gm_19, hum_19, hgm_19, hggm_19, hJ, hf_20, hf_21, hf_22, hT⟩
          · refine lq_top (v := (-1)) hre ?_
            rw [ht] at hT
            have hFo := hFo.m hIo hgm_16 (by decide) (hggm_16 (a 10) (by rw [fx_10 hX]; decide))
            have hI := hI.ag hgm_16 (by decide)
            have hI := hI.agg hggm_16
            have hW : IW (um_16 1) (um_16 2) (um_16 9) (ym_16 (a 89)) := by rw [hgm_16.at (fx_89 hX) (by decide)]; exact iw_u hW (hum_16 1 (by decide)) (hum_16 2 (by decide)) (hum_16 9 (by decide))
            have hTh : vb 38408 0 4800 (ym_16 (a 99)) := by rw [hgm_16.at (fx_99 hX) (by decide)]; exact hTh
            have : um_16 2 = v 2 := hum_16 2 (by decide)
            have : um_16 9 = v 9 := hum_16 9 (by decide)
            have : um_16 3 = v 3 := hum_16 3 (by decide)
            have : um_16 10 = v 10 := hum_16 10 (by decide)
            refine lv_pop hx hb dL_law_197 rfl ?_
            refine lv_goto (tgt := 1360) hx hb dL_law_198 (by decide) ?_
            obtain ⟨x_23, ex_23⟩ : ∃ y : Int32, y = i4 + Int32.ofInt 10 := ⟨_, rfl⟩
            have hx_23 := z_add ex_23 rfl (zk (x := Int32.ofInt 10) 10 rfl) (by omega) (by omega)
            refine lv_iinc (v := x_23) (lv' := [(4, .int x_23), (0, .ref b), (1, .ref (a 0)), (2, .ref (a 50)), (3, .ref (a 49))]) hx hb dL_law_1360 hl (k := 4) rfl ex_23.symm (by decide) rfl (fun ls hl => ?_)
            refine lv_goto (tgt := 23) hx hb dL_law_1363 (by decide) ?_
            refine W.widen (k := 200 + 4 * (q + 1)) (n := 60000 + 100 * (q + 1)) (by omega) (by omega) ?_
            exact ih (q + 1) x_23 tm_8 lm_8 ym_16 gm_16 um_8 um_16 H _ ls (by omega) hF hI hJ hW hTh hFo (by omega) (by omega) (by omega) (by omega) (by omega) hT hS (lv_sub hl [1, 2, 3, 4, 0] rfl)
          · rw [ht] at hT
            have hFo := hFo.m hIo hgm_19 (by decide) (hggm_19 (a 10) (by rw [fx_10 hX]; decide))
            have hI := hI.ag hgm_19 (by decide)
            have hI := hI.agg hggm_19
            have hW : IW (um_19 1) (um_19 2) (um_19 9) (ym_19 (a 89)) := by rw [hgm_19.at (fx_89 hX) (by decide)]; exact iw_u hW (hum_19 1 (by decide)) (hum_19 2 (by decide)) (hum_19 9 (by decide))
            have hTh : vb 38408 0 4800 (ym_19 (a 99)) := by rw [hgm_19.at (fx_99 hX) (by decide)]; exact hTh
            have : um_19 2 = v 2 := hum_19 2 (by decide)
            have : um_19 9 = v 9 := hum_19 9 (by decide)
            have : um_19 3 = v 3 := hum_19 3 (by decide)
            have : um_19 10 = v 10 := hum_19 10 (by decide)
            refine lv_pop hx hb dL_law_197 rfl ?_
            refine lv_goto (tgt := 1360) hx hb dL_law_198 (by decide) ?_
            obtain ⟨x_24, ex_24⟩ : ∃ y : Int32, y = i4 + Int32.ofInt 10 := ⟨_, rfl⟩
            have hx_24 := z_add ex_24 rfl (zk (x := Int32.ofInt 10) 10 rfl) (by omega) (by omega)
            refine lv_iinc (v := x_24) (lv' := [(4, .int x_24), (0, .ref b), (1, .ref (a 0)), (2, .ref (a 50)), (3, .ref (a 49))]) hx hb dL_law_1360 hl (k := 4) rfl ex_24.symm (by decide) rfl (fun ls hl => ?_)
            refine lv_goto (tgt := 23) hx hb dL_law_1363 (by decide) ?_
            refine W.widen (k := 200 + 4 * (q + 1)) (n := 60000 + 100 * (q + 1)) (by omega) (by omega) ?_
            exact ih (q + 1) x_24 tm_8 lm_8 ym_19 gm_19 um_8 um_19 H _ ls (by omega) hF hI hJ hW hTh hFo (by omega) (by omega) (by omega) (by omega) (by omega) hT hS (lv_sub hl [1, 2, 3, 4, 0] rfl)
        · rw [ht] at hT
          have hF : ∀ q, tm_10 q ≠ 0 → s.heap.size ≤ q := fun q h => hFc q (hMo.2 q h)
          have hFo := hFo.kp hIo hKM (hum_10 1 (by decide)) (hum_10 2 (by decide)) (hum_10 9 (by decide))
          have hKM := hKM.to0
          have hJ := hJ.kp hKM hI.1
          have hW : IW (v 1) (v 2) (v 9) (ym_10 (a 89)) := by rw [hKM.fx hX (j := 89) (by decide) (by decide)]; exact hW
          have hTh : vb 38408 0 4800 (ym_10 (a 99)) := by rw [hKM.fx hX (j := 99) (by decide) (by decide)]; exact hTh
          have hX := hI.1
          have : um_10 2 = u 2 := hum_10 2 (by decide)
          have : um_10 9 = u 9 := hum_10 9 (by decide)
          refine lv_pop hx hb dL_law_186 rfl ?_
          refine lv_aload_n hx hb dL_law_187 rfl (lv_at hl 2 rfl) ?_
          refine lv_aload_n hx hb dL_law_188 rfl (lv_at hl 0 rfl) ?_
          refine lv_iload hx hb dL_law_189 (lv_at hl 4 rfl) ?_
          refine lv_iconst (v := 1) hx hb dL_law_191 (by decide) ?_
          refine lv_iadd hx hb dL_law_192 ?_
          refine lv_topi (fun x_25 ex_25 => ?_)
          have hx_25 := z_add ex_25 rfl (zk (x := 1) 1 rfl) (by omega) (by omega)
          refine va_sld hx hb hXs hbl hbA hS (z_in rfl (by omega) (by omega)) dL_law_193 ?_
          refine lq_top (v := s1) (by rw [hs1]; exact congrArg xs (by rw [z_nat (x := x_25) rfl]; omega)) ?_
          have hFc := tw_free hF hS hA
          refine va_calli (va_runV (As := [.int s1]) (rest := []) ⟨hx, hb, hml, hown, hts⟩ (m_post l dC dI ad av H.size a k tm_10 lm_10 ym_10 gm_10 v s1 hJ hW) (cwV 1 hts (gi_4 (im_law _ (List.mem_of_getElem? (i := 4) rfl)) (im_law _ (List.mem_of_getElem? (i := 5) rfl)) (im_law _ (List.mem_of_getElem? (i := 6) rfl)) (im_law _ (List.mem_of_getElem? (i := 7) rfl)) im_m_post gd_m_post) rfl rfl rfl (by decide +kernel) ⟨Nat.le_of_ble_eq_true rfl, Nat.le_of_ble_eq_true rfl⟩) ⟨pw_blind, tw_recv hK hT (fx_50 hX) (by decide) cl_e60 rfl, pw_use hT hK hFc hS hM⟩ rfl rfl hl.1 rfl (lv_room (Nat.le_of_ble_eq_true rfl)) dL_law_194 ⟨by show 200 + 4 * q + 0 + 0 ≤ 601024; omega, by show 60000 + 100 * q + 0 + 0 ≤ 7293034; omega⟩) hS (fun q _ h => hFc q h) hFc (fun r0 r_26 t H locs ht hvm hw hB hz1 hk1 hS => ?_)
          clear hvm hz1 hk1
          subst hw
          have hIo := hI
          rcases hB with ⟨um_27, ym_27, gm_27, hre, hum_27, hgm_27, hggm_27, hJ, hf_28, hf_29, hT⟩ | ⟨um_30, ym_30, gm_30, hum_30, hgm_30, hggm_30, hJ, hf_31, hf_32, hf_33, hT⟩
          · refine lq_top (v := (-1)) hre ?_
            rw [ht] at hT
            have hFo := hFo.m hIo hgm_27 (by decide) (hggm_27 (a 10) (by rw [fx_10 hX]; decide))
            have hI := hI.ag hgm_27 (by decide)
            have hI := hI.agg hggm_27
            have hW : IW (um_27 1) (um_27 2) (um_27 9) (ym_27 (a 89)) := by rw [hgm_27.at (fx_89 hX) (by decide)]; exact iw_u hW (hum_27 1 (by decide)) (hum_27 2 (by decide)) (hum_27 9 (by decide))
            have hTh : vb 38408 0 4800 (ym_27 (a 99)) := by rw [hgm_27.at (fx_99 hX) (by decide)]; exact hTh
            have : um_27 2 = v 2 := hum_27 2 (by decide)
            have : um_27 9 = v 9 := hum_27 9 (by decide)
            have : um_27 3 = v 3 := hum_27 3 (by decide)
            have : um_27 10 = v 10 := hum_27 10 (by decide)
            refine lv_pop hx hb dL_law_197 rfl ?_
            refine lv_goto (tgt := 1360) hx hb dL_law_198 (by decide) ?_
            obtain ⟨x_34, ex_34⟩ : ∃ y : Int32, y = i4 + Int32.ofInt 10 := ⟨_, rfl⟩
            have hx_34 := z_add ex_34 rfl (zk (x := Int32.ofInt 10) 10 rfl) (by omega) (by omega)
            refine lv_iinc (v := x_34) (lv' := [(4, .int x_34), (0, .ref b), (1, .ref (a 0)), (2, .ref (a 50)), (3, .ref (a 49))]) hx hb dL_law_1360 hl (k := 4) rfl ex_34.symm (by decide) rfl (fun ls hl => ?_)
            refine lv_goto (tgt := 23) hx hb dL_law_1363 (by decide) ?_
            refine W.widen (k := 200 + 4 * (q + 1)) (n := 60000 + 100 * (q + 1)) (by omega) (by omega) ?_
            exact ih (q + 1) x_34 tm_10 lm_10 ym_27 gm_27 um_10 um_27 H _ ls (by omega) hF hI hJ hW hTh hFo (by omega) (by omega) (by omega) (by omega) (by omega) hT hS (lv_sub hl [1, 2, 3, 4, 0] rfl)
          · rw [ht] at hT
            have hFo := hFo.m hIo hgm_30 (by decide) (hggm_30 (a 10) (by rw [fx_10 hX]; decide))
            have hI := hI.ag hgm_30 (by decide)
            have hI := hI.agg hggm_30
            have hW : IW (um_30 1) (um_30 2) (um_30 9) (ym_30 (a 89)) := by rw [hgm_30.at (fx_89 hX) (by decide)]; exact iw_u hW (hum_30 1 (by decide)) (hum_30 2 (by decide)) (hum_30 9 (by decide))
            have hTh : vb 38408 0 4800 (ym_30 (a 99)) := by rw [hgm_30.at (fx_99 hX) (by decide)]; exact hTh
            have : um_30 2 = v 2 := hum_30 2 (by decide)
            have : um_30 9 = v 9 := hum_30 9 (by decide)
            have : um_30 3 = v 3 := hum_30 3 (by decide)
            have : um_30 10 = v 10 := hum_30 10 (by decide)
            refine lv_pop hx hb dL_law_197 rfl ?_
            refine lv_goto (tgt := 1360) hx hb dL_law_198 (by decide) ?_
            obtain ⟨x_35, ex_35⟩ : ∃ y : Int32, y = i4 + Int32.ofInt 10 := ⟨_, rfl⟩
            have hx_35 := z_add ex_35 rfl (zk (x := Int32.ofInt 10) 10 rfl) (by omega) (by omega)
            refine lv_iinc (v := x_35) (lv' := [(4, .int x_35), (0, .ref b), (1, .ref (a 0)), (2, .ref (a 50)), (3, .ref (a 49))]) hx hb dL_law_1360 hl (k := 4) rfl ex_35.symm (by decide) rfl (fun ls hl => ?_)
            refine lv_goto (tgt := 23) hx hb dL_law_1363 (by decide) ?_
            refine W.widen (k := 200 + 4 * (q + 1)) (n := 60000 + 100 * (q + 1)) (by omega) (by omega) ?_
            exact ih (q + 1) x_35 tm_10 lm_10 ym_30 gm_30 um_10 um_30 H _ ls (by omega) hF hI hJ hW hTh hFo (by omega) (by omega) (by omega) (by omega) (by omega) hT hS (lv_sub hl [1, 2, 3, 4, 0] rfl)
      · refine lq_top (v := 1) t_5 ?_
        have nt_5 := z_eq rfl (zk (x := 1) 1 rfl) t_5
        refine lv_tableIn (tgt := 201) hx hb dL_law_40 (by decide) (by decide) (off := 161) (by decide) (by decide) ?_
        refine lv_aload_n hx hb dL_law_201 rfl (lv_at hl 1 rfl) ?_
        refine lv_aload_n hx hb dL_law_202 rfl (lv_at hl 0 rfl) ?_
        refine lv_iload hx hb dL_law_203 (lv_at hl 4 rfl) ?_
        refine lv_iconst (v := 1) hx hb dL_law_205 (by decide) ?_
        refine lv_iadd hx hb dL_law_206 ?_
        refine lv_topi (fun x_36 ex_36 => ?_)
        have hx_36 := z_add ex_36 rfl (zk (x := 1) 1 rfl) (by omega) (by omega)
        refine va_sld hx hb hXs hbl hbA hS (z_in rfl (by omega) (by omega)) dL_law_207 ?_
        refine lq_top (v := s1) (by rw [hs1]; exact congrArg xs (by rw [z_nat (x := x_36) rfl]; omega)) ?_
        refine lv_aload_n hx hb dL_law_208 rfl (lv_at hl 0 rfl) ?_
        refine lv_iload hx hb dL_law_209 (lv_at hl 4 rfl) ?_
        refine lv_iconst (v := 2) hx hb dL_law_211 (by decide) ?_
        refine lv_iadd hx hb dL_law_212 ?_
        refine lv_topi (fun x_37 ex_37 => ?_)
        have hx_37 := z_add ex_37 rfl (zk (x := 2) 2 rfl) (by omega) (by omega)
        refine va_sld hx hb hXs hbl hbA hS (z_in rfl (by omega) (by omega)) dL_law_213 ?_
        refine lq_top (v := s2) (by rw [hs2]; exact congrArg xs (by rw [z_nat (x := x_37) rfl]; omega)) ?_
        refine lv_aload_n hx hb dL_law_214 rfl (lv_at hl 0 rfl) ?_
        refine lv_iload hx hb dL_law_215 (lv_at hl 4 rfl) ?_
        refine lv_iconst (v := 3) hx hb dL_law_217 (by decide) ?_
        refine lv_iadd hx hb dL_law_218 ?_
        refine lv_topi (fun x_38 ex_38 => ?_)
        have hx_38 := z_add ex_38 rfl (zk (x := 3) 3 rfl) (by omega) (by omega)
        refine va_sld hx hb hXs hbl hbA hS (z_in rfl (by omega) (by omega)) dL_law_219 ?_
        refine lq_top (v := s3) (by rw [hs3]; exact congrArg xs (by rw [z_nat (x := x_38) rfl]; omega)) ?_
        refine lv_aload_n hx hb dL_law_220 rfl (lv_at hl 0 rfl) ?_
        refine lv_iload hx hb dL_law_221 (lv_at hl 4 rfl) ?_
        refine lv_iconst (v := 4) hx hb dL_law_223 (by decide) ?_
        refine lv_iadd hx hb dL_law_224 ?_
        refine lv_topi (fun x_39 ex_39 => ?_)
        have hx_39 := z_add ex_39 rfl (zk (x := 4) 4 rfl) (by omega) (by omega)
        refine va_sld hx hb hXs hbl hbA hS (z_in rfl (by omega) (by omega)) dL_law_225 ?_
        refine lq_top (v := s4) (by rw [hs4]; exact congrArg xs (by rw [z_nat (x := x_39) rfl]; omega)) ?_
        have hFc := tw_free hF hS hA
        refine va_calli (va_runV (As := [.int s1, .int s2, .int s3, .int s4]) (rest := []) ⟨hx, hb, hml, hown, hts⟩ (c_handF l dC dI ad av H.size a k τ ln y g u s1 s2 s3 s4 hI hFo) (cwV 4 hts (gi_4 (im_law _ (List.mem_of_getElem? (i := 8) rfl)) (im_law _ (List.mem_of_getElem? (i := 9) rfl)) (im_law _ (List.mem_of_getElem? (i := 10) rfl)) (im_law _ (List.mem_of_getElem? (i := 3) rfl)) im_c_handF gd_c_handF) rfl rfl rfl (by decide +kernel) ⟨Nat.le_of_ble_eq_true rfl, Nat.le_of_ble_eq_true rfl⟩) ⟨pw_blind, tw_recv hK hT (fx_0 hX) (by decide) cl_e10 rfl, pw_use hT hK hFc hS hM⟩ rfl rfl hl.1 rfl (lv_room (Nat.le_of_ble_eq_true rfl)) dL_law_226 ⟨by show 200 + 4 * q + 1 ≤ 601024; omega, by show 60000 + 100 * q + 3 ≤ 7293034; omega⟩) hS (fun q _ h => hFc q h) hFc (fun r0 r_40 t H locs ht hvm hw hB hz1 hk1 hS => ?_)
        clear hvm hz1 hk1
        subst hw
        have hIo := hI
        rcases hB with ⟨um_41, hre, hum_41, hf_42, ⟨tm_41, lm_41, ym_41, gm_41, hMo, hKM, hI, hFo, hT⟩⟩ | ⟨um_43, hum_43, hf_44, hf_45, hf_46, ⟨tm_43, lm_43, ym_43, gm_43, hMo, hKM, hI, hFo, hT⟩⟩
        · refine lq_top (v := (-1)) hre ?_
          rw [ht] at hT
          have hF : ∀ q, tm_41 q ≠ 0 → s.heap.size ≤ q := fun q h => hFc q (hMo.2 q h)
          have hJ := hJ.kp hKM hI.1
          have hW : IW (v 1) (v 2) (v 9) (ym_41 (a 89)) := by rw [hKM.fx hX (j := 89) (by decide) (by decide)]; exact hW
          have hTh : vb 38408 0 4800 (ym_41 (a 99)) := by rw [hKM.fx hX (j := 99) (by decide) (by decide)]; exact hTh
          have hX := hI.1
          have : um_41 2 = u 2 := hum_41 2 (by decide)
          have : um_41 9 = u 9 := hum_41 9 (by decide)
          refine lv_pop hx hb dL_law_229 rfl ?_
          refine lv_aload_n hx hb dL_law_230 rfl (lv_at hl 2 rfl) ?_
          refine lv_aload_n hx hb dL_law_231 rfl (lv_at hl 0 rfl) ?_
          refine lv_iload hx hb dL_law_232 (lv_at hl 4 rfl) ?_
          refine lv_iconst (v := 1) hx hb dL_law_234 (by decide) ?_
          refine lv_iadd hx hb dL_law_235 ?_
          refine lv_topi (fun x_47 ex_47 => ?_)
          have hx_47 := z_add ex_47 rfl (zk (x := 1) 1 rfl) (by omega) (by omega)
          refine va_sld hx hb hXs hbl hbA hS (z_in rfl (by omega) (by omega)) dL_law_236 ?_
          refine lq_top (v := s1) (by rw [hs1]; exact congrArg xs (by rw [z_nat (x := x_47) rfl]; omega)) ?_
          refine lv_aload_n hx hb dL_law_237 rfl (lv_at hl 0 rfl) ?_
          refine lv_iload hx hb dL_law_238 (lv_at hl 4 rfl) ?_
          refine lv_iconst (v := 2) hx hb dL_law_240 (by decide) ?_
          refine lv_iadd hx hb dL_law_241 ?_
          refine lv_topi (fun x_48 ex_48 => ?_)
          have hx_48 := z_add ex_48 rfl (zk (x := 2) 2 rfl) (by omega) (by omega)
          refine va_sld hx hb hXs hbl hbA hS (z_in rfl (by omega) (by omega)) dL_law_242 ?_
          refine lq_top (v := s2) (by rw [hs2]; exact congrArg xs (by rw [z_nat (x := x_48) rfl]; omega)) ?_
          refine lv_aload_n hx hb dL_law_243 rfl (lv_at hl 0 rfl) ?_
          refine lv_iload hx hb dL_law_244 (lv_at hl 4 rfl) ?_
          refine lv_iconst (v := 3) hx hb dL_law_246 (by decide) ?_
          refine lv_iadd hx hb dL_law_247 ?_
          refine lv_topi (fun x_49 ex_49 => ?_)
          have hx_49 := z_add ex_49 rfl (zk (x := 3) 3 rfl) (by omega) (by omega)
          refine va_sld hx hb hXs hbl hbA hS (z_in rfl (by omega) (by omega)) dL_law_248 ?_
          refine lq_top (v := s3) (by rw [hs3]; exact congrArg xs (by rw [z_nat (x := x_49) rfl]; omega)) ?_
          refine lv_aload_n hx hb dL_law_249 rfl (lv_at hl 0 rfl) ?_
          refine lv_iload hx hb dL_law_250 (lv_at hl 4 rfl) ?_
          refine lv_iconst (v := 4) hx hb dL_law_252 (by decide) ?_
          refine lv_iadd hx hb dL_law_253 ?_
          refine lv_topi (fun x_50 ex_50 => ?_)
          have hx_50 := z_add ex_50 rfl (zk (x := 4) 4 rfl) (by omega) (by omega)
          refine va_sld hx hb hXs hbl hbA hS (z_in rfl (by omega) (by omega)) dL_law_254 ?_
          refine lq_top (v := s4) (by rw [hs4]; exact congrArg xs (by rw [z_nat (x := x_50) rfl]; omega)) ?_
          have hFc := tw_free hF hS hA
          refine va_calli (va_runV (As := [.int s1, .int s2, .int s3, .int s4]) (rest := []) ⟨hx, hb, hml, hown, hts⟩ (m_hand l dC dI ad av H.size a k tm_41 lm_41 ym_41 gm_41 v s1 s2 s3 s4 hJ hW) (cwV 4 hts (gi_4 (im_law _ (List.mem_of_getElem? (i := 11) rfl)) (im_law _ (List.mem_of_getElem? (i := 12) rfl)) (im_law _ (List.mem_of_getElem? (i := 13) rfl)) (im_law _ (List.mem_of_getElem? (i := 7) rfl)) im_m_hand gd_m_hand) rfl rfl rfl (by decide +kernel) ⟨Nat.le_of_ble_eq_true rfl, Nat.le_of_ble_eq_true rfl⟩) ⟨pw_blind, tw_recv hK hT (fx_50 hX) (by decide) cl_e60 rfl, pw_use hT hK hFc hS hM⟩ rfl rfl hl.1 rfl (lv_room (Nat.le_of_ble_eq_true rfl)) dL_law_255 ⟨by show 200 + 4 * q + 1 + 0 ≤ 601024; omega, by show 60000 + 100 * q + 3 + 0 ≤ 7293034; omega⟩) hS (fun q _ h => hFc q h) hFc (fun r0 r_51 t H locs ht hvm hw hB hz1 hk1 hS => ?_)
          clear hvm hz1 hk1
          subst hw
          have hIo := hI
          rcases hB with ⟨um_52, ym_52, gm_52, hre, hum_52, hgm_52, hggm_52, hJ, hW, hf_53, hf_54, hT⟩ | ⟨um_55, ym_55, gm_55, hum_55, hgm_55, hggm_55, hJ, hW, hf_56, hf_57, hf_58, hT⟩
          · refine lq_top (v := (-1)) hre ?_
            rw [ht] at hT
            have hFo := hFo.m hIo hgm_52 (by decide) (hggm_52 (a 10) (by rw [fx_10 hX]; decide))
            have hI := hI.ag hgm_52 (by decide)
            have hI := hI.agg hggm_52
            have hTh : vb 38408 0 4800 (ym_52 (a 99)) := by rw [hgm_52.at (fx_99 hX) (by decide)]; exact hTh
            have : um_52 2 = v 2 := hum_52 2 (by decide)
            have : um_52 9 = v 9 := hum_52 9 (by decide)
            have : um_52 3 = v 3 := hum_52 3 (by decide)
            have : um_52 10 = v 10 := hum_52 10 (by decide)
            refine lv_pop hx hb dL_law_258 rfl ?_
            refine lv_goto (tgt := 1360) hx hb dL_law_259 (by decide) ?_
            obtain ⟨x_59, ex_59⟩ : ∃ y : Int32, y = i4 + Int32.ofInt 10 := ⟨_, rfl⟩
            have hx_59 := z_add ex_59 rfl (zk (x := Int32.ofInt 10) 10 rfl) (by omega) (by omega)
            refine lv_iinc (v := x_59) (lv' := [(4, .int x_59), (0, .ref b), (1, .ref (a 0)), (2, .ref (a 50)), (3, .ref (a 49))]) hx hb dL_law_1360 hl (k := 4) rfl ex_59.symm (by decide) rfl (fun ls hl => ?_)
            refine lv_goto (tgt := 23) hx hb dL_law_1363 (by decide) ?_
            refine W.widen (k := 200 + 4 * (q + 1)) (n := 60000 + 100 * (q + 1)) (by omega) (by omega) ?_
            exact ih (q + 1) x_59 tm_41 lm_41 ym_52 gm_52 um_41 um_52 H _ ls (by omega) hF hI hJ hW hTh hFo (by omega) (by omega) (by omega) (by omega) (by omega) hT hS (lv_sub hl [1, 2, 3, 4, 0] rfl)
          · rw [ht] at hT
            have hFo := hFo.m hIo hgm_55 (by decide) (hggm_55 (a 10) (by rw [fx_10 hX]; decide))
            have hI := hI.ag hgm_55 (by decide)
            have hI := hI.agg hggm_55
            have hTh : vb 38408 0 4800 (ym_55 (a 99)) := by rw [hgm_55.at (fx_99 hX) (by decide)]; exact hTh
            have : um_55 2 = v 2 := hum_55 2 (by decide)
            have : um_55 9 = v 9 := hum_55 9 (by decide)
            have : um_55 3 = v 3 := hum_55 3 (by decide)
            have : um_55 10 = v 10 := hum_55 10 (by decide)
            refine lv_pop hx hb dL_law_258 rfl ?_
            refine lv_goto (tgt := 1360) hx hb dL_law_259 (by decide) ?_
            obtain ⟨x_60, ex_60⟩ : ∃ y : Int32, y = i4 + Int32.ofInt 10 := ⟨_, rfl⟩
            have hx_60 := z_add ex_60 rfl (zk (x := Int32.ofInt 10) 10 rfl) (by omega) (by omega)
            refine lv_iinc (v := x_60) (lv' := [(4, .int x_60), (0, .ref b), (1, .ref (a 0)), (2, .ref (a 50)), (3, .ref (a 49))]) hx hb dL_law_1360 hl (k := 4) rfl ex_60.symm (by decide) rfl (fun ls hl => ?_)
            refine lv_goto (tgt := 23) hx hb dL_law_1363 (by decide) ?_
            refine W.widen (k := 200 + 4 * (q + 1)) (n := 60000 + 100 * (q + 1)) (by omega) (by omega) ?_
            exact ih (q + 1) x_60 tm_41 lm_41 ym_55 gm_55 um_41 um_55 H _ ls (by omega) hF hI hJ hW hTh hFo (by omega) (by omega) (by omega) (by omega) (by omega) hT hS (lv_sub hl [1, 2, 3, 4, 0] rfl)
        · rw [ht] at hT
          have hF : ∀ q, tm_43 q ≠ 0 → s.heap.size ≤ q := fun q h => hFc q (hMo.2 q h)
          have hJ := hJ.kp hKM hI.1
          have hW : IW (v 1) (v 2) (v 9) (ym_43 (a 89)) := by rw [hKM.fx hX (j := 89) (by decide) (by decide)]; exact hW
          have hTh : vb 38408 0 4800 (ym_43 (a 99)) := by rw [hKM.fx hX (j := 99) (by decide) (by decide)]; exact hTh
          have hX := hI.1
          have : um_43 2 = u 2 := hum_43 2 (by decide)
          have : um_43 9 = u 9 := hum_43 9 (by decide)
          refine lv_pop hx hb dL_law_229 rfl ?_
          refine lv_aload_n hx hb dL_law_230 rfl (lv_at hl 2 rfl) ?_
          refine lv_aload_n hx hb dL_law_231 rfl (lv_at hl 0 rfl) ?_
          refine lv_iload hx hb dL_law_232 (lv_at hl 4 rfl) ?_
          refine lv_iconst (v := 1) hx hb dL_law_234 (by decide) ?_
          refine lv_iadd hx hb dL_law_235 ?_
          refine lv_topi (fun x_61 ex_61 => ?_)
          have hx_61 := z_add ex_61 rfl (zk (x := 1) 1 rfl) (by omega) (by omega)
          refine va_sld hx hb hXs hbl hbA hS (z_in rfl (by omega) (by omega)) dL_law_236 ?_
          refine lq_top (v := s1) (by rw [hs1]; exact congrArg xs (by rw [z_nat (x := x_61) rfl]; omega)) ?_
          refine lv_aload_n hx hb dL_law_237 rfl (lv_at hl 0 rfl) ?_
          refine lv_iload hx hb dL_law_238 (lv_at hl 4 rfl) ?_
          refine lv_iconst (v := 2) hx hb dL_law_240 (by decide) ?_
          refine lv_iadd hx hb dL_law_241 ?_
          refine lv_topi (fun x_62 ex_62 => ?_)
          have hx_62 := z_add ex_62 rfl (zk (x := 2) 2 rfl) (by omega) (by omega)
          refine va_sld hx hb hXs hbl hbA hS (z_in rfl (by omega) (by omega)) dL_law_242 ?_
          refine lq_top (v := s2) (by rw [hs2]; exact congrArg xs (by rw [z_nat (x := x_62) rfl]; omega)) ?_
          refine lv_aload_n hx hb dL_law_243 rfl (lv_at hl 0 rfl) ?_
          refine lv_iload hx hb dL_law_244 (lv_at hl 4 rfl) ?_
          refine lv_iconst (v := 3) hx hb dL_law_246 (by decide) ?_
          refine lv_iadd hx hb dL_law_247 ?_
          refine lv_topi (fun x_63 ex_63 => ?_)
          have hx_63 := z_add ex_63 rfl (zk (x := 3) 3 rfl) (by omega) (by omega)
          refine va_sld hx hb hXs hbl hbA hS (z_in rfl (by omega) (by omega)) dL_law_248 ?_
          refine lq_top (v := s3) (by rw [hs3]; exact congrArg xs (by rw [z_nat (x := x_63) rfl]; omega)) ?_
          refine lv_aload_n hx hb dL_law_249 rfl (lv_at hl 0 rfl) ?_
          refine lv_iload hx hb dL_law_250 (lv_at hl 4 rfl) ?_
          refine lv_iconst (v := 4) hx hb dL_law_252 (by decide) ?_
          refine lv_iadd hx hb dL_law_253 ?_
          refine lv_topi (fun x_64 ex_64 => ?_)
          have hx_64 := z_add ex_64 rfl (zk (x := 4) 4 rfl) (by omega) (by omega)
          refine va_sld hx hb hXs hbl hbA hS (z_in rfl (by omega) (by omega)) dL_law_254 ?_
          refine lq_top (v := s4) (by rw [hs4]; exact congrArg xs (by rw [z_nat (x := x_64) rfl]; omega)) ?_
          have hFc := tw_free hF hS hA
          refine va_calli (va_runV (As := [.int s1, .int s2, .int s3, .int s4]) (rest := []) ⟨hx, hb, hml, hown, hts⟩ (m_hand l dC dI ad av H.size a k tm_43 lm_43 ym_43 gm_43 v s1 s2 s3 s4 hJ hW) (cwV 4 hts (gi_4 (im_law _ (List.mem_of_getElem? (i := 11) rfl)) (im_law _ (List.mem_of_getElem? (i := 12) rfl)) (im_law _ (List.mem_of_getElem? (i := 13) rfl)) (im_law _ (List.mem_of_getElem? (i := 7) rfl)) im_m_hand gd_m_hand) rfl rfl rfl (by decide +kernel) ⟨Nat.le_of_ble_eq_true rfl, Nat.le_of_ble_eq_true rfl⟩) ⟨pw_blind, tw_recv hK hT (fx_50 hX) (by decide) cl_e60 rfl, pw_use hT hK hFc hS hM⟩ rfl rfl hl.1 rfl (lv_room (Nat.le_of_ble_eq_true rfl)) dL_law_255 ⟨by show 200 + 4 * q + 1 + 0 ≤ 601024; omega, by show 60000 + 100 * q + 3 + 0 ≤ 7293034; omega⟩) hS (fun q _ h => hFc q h) hFc (fun r0 r_65 t H locs ht hvm hw hB hz1 hk1 hS => ?_)
          clear hvm hz1 hk1
          subst hw
          have hIo := hI
          rcases hB with ⟨um_66, ym_66, gm_66, hre, hum_66, hgm_66, hggm_66, hJ, hW, hf_67, hf_68, hT⟩ | ⟨um_69, ym_69, gm_69, hum_69, hgm_69, hggm_69, hJ, hW, hf_70, hf_71, hf_72, hT⟩
          · refine lq_top (v := (-1)) hre ?_
            rw [ht] at hT
            have hFo := hFo.m hIo hgm_66 (by decide) (hggm_66 (a 10) (by rw [fx_10 hX]; decide))
            have hI := hI.ag hgm_66 (by decide)
            have hI := hI.agg hggm_66
            have hTh : vb 38408 0 4800 (ym_66 (a 99)) := by rw [hgm_66.at (fx_99 hX) (by decide)]; exact hTh
            have : um_66 2 = v 2 := hum_66 2 (by decide)
            have : um_66 9 = v 9 := hum_66 9 (by decide)
            have : um_66 3 = v 3 := hum_66 3 (by decide)
            have : um_66 10 = v 10 := hum_66 10 (by decide)
            refine lv_pop hx hb dL_law_258 rfl ?_
            refine lv_goto (tgt := 1360) hx hb dL_law_259 (by decide) ?_
            obtain ⟨x_73, ex_73⟩ : ∃ y : Int32, y = i4 + Int32.ofInt 10 := ⟨_, rfl⟩
            have hx_73 := z_add ex_73 rfl (zk (x := Int32.ofInt 10) 10 rfl) (by omega) (by omega)
            refine lv_iinc (v := x_73) (lv' := [(4, .int x_73), (0, .ref b), (1, .ref (a 0)), (2, .ref (a 50)), (3, .ref (a 49))]) hx hb dL_law_1360 hl (k := 4) rfl ex_73.symm (by decide) rfl (fun ls hl => ?_)
            refine lv_goto (tgt := 23) hx hb dL_law_1363 (by decide) ?_
            refine W.widen (k := 200 + 4 * (q + 1)) (n := 60000 + 100 * (q + 1)) (by omega) (by omega) ?_
            exact ih (q + 1) x_73 tm_43 lm_43 ym_66 gm_66 um_43 um_66 H _ ls (by omega) hF hI hJ hW hTh hFo (by omega) (by omega) (by omega) (by omega) (by omega) hT hS (lv_sub hl [1, 2, 3, 4, 0] rfl)
          · rw [ht] at hT
            have hFo := hFo.m hIo hgm_69 (by decide) (hggm_69 (a 10) (by rw [fx_10 hX]; decide))
            have hI := hI.ag hgm_69 (by decide)
            have hI := hI.agg hggm_69
            have hTh : vb 38408 0 4800 (ym_69 (a 99)) := by rw [hgm_69.at (fx_99 hX) (by decide)]; exact hTh
            have : um_69 2 = v 2 := hum_69 2 (by decide)
            have : um_69 9 = v 9 := hum_69 9 (by decide)
            have : um_69 3 = v 3 := hum_69 3 (by decide)
            have : um_69 10 = v 10 := hum_69 10 (by decide)
            refine lv_pop hx hb dL_law_258 rfl ?_
            refine lv_goto (tgt := 1360) hx hb dL_law_259 (by decide) ?_
            obtain ⟨x_74, ex_74⟩ : ∃ y : Int32, y = i4 + Int32.ofInt 10 := ⟨_, rfl⟩
            have hx_74 := z_add ex_74 rfl (zk (x := Int32.ofInt 10) 10 rfl) (by omega) (by omega)
            refine lv_iinc (v := x_74) (lv' := [(4, .int x_74), (0, .ref b), (1, .ref (a 0)), (2, .ref (a 50)), (3, .ref (a 49))]) hx hb dL_law_1360 hl (k := 4) rfl ex_74.symm (by decide) rfl (fun ls hl => ?_)
            refine lv_goto (tgt := 23) hx hb dL_law_1363 (by decide) ?_
            refine W.widen (k := 200 + 4 * (q + 1)) (n := 60000 + 100 * (q + 1)) (by omega) (by omega) ?_
            exact ih (q + 1) x_74 tm_43 lm_43 ym_69 gm_69 um_43 um_69 H _ ls (by omega) hF hI hJ hW hTh hFo (by omega) (by omega) (by omega) (by omega) (by omega) hT hS (lv_sub hl [1, 2, 3, 4, 0] rfl)
      · refine lq_top (v := 2) t_5 ?_
        have nt_5 := z_eq rfl (zk (x := 2) 2 rfl) t_5
        refine lv_tableIn (tgt := 262) hx hb dL_law_40 (by decide) (by decide) (off := 222) (by decide) (by decide) ?_
        refine lv_aload_n hx hb dL_law_262 rfl (lv_at hl 1 rfl) ?_
        refine lv_aload_n hx hb dL_law_263 rfl (lv_at hl 0 rfl) ?_
        refine lv_iload hx hb dL_law_264 (lv_at hl 4 rfl) ?_
        refine lv_iconst (v := 1) hx hb dL_law_266 (by decide) ?_
        refine lv_iadd hx hb dL_law_267 ?_
        refine lv_topi (fun x_75 ex_75 => ?_)
        have hx_75 := z_add ex_75 rfl (zk (x := 1) 1 rfl) (by omega) (by omega)
        refine va_sld hx hb hXs hbl hbA hS (z_in rfl (by omega) (by omega)) dL_law_268 ?_
        refine lq_top (v := s1) (by rw [hs1]; exact congrArg xs (by rw [z_nat (x := x_75) rfl]; omega)) ?_
        refine lv_aload_n hx hb dL_law_269 rfl (lv_at hl 0 rfl) ?_
        refine lv_iload hx hb dL_law_270 (lv_at hl 4 rfl) ?_
        refine lv_iconst (v := 2) hx hb dL_law_272 (by decide) ?_
        refine lv_iadd hx hb dL_law_273 ?_
        refine lv_topi (fun x_76 ex_76 => ?_)
        have hx_76 := z_add ex_76 rfl (zk (x := 2) 2 rfl) (by omega) (by omega)
        refine va_sld hx hb hXs hbl hbA hS (z_in rfl (by omega) (by omega)) dL_law_274 ?_
        refine lq_top (v := s2) (by rw [hs2]; exact congrArg xs (by rw [z_nat (x := x_76) rfl]; omega)) ?_
        refine lv_aload_n hx hb dL_law_275 rfl (lv_at hl 0 rfl) ?_
        refine lv_iload hx hb dL_law_276 (lv_at hl 4 rfl) ?_
        refine lv_iconst (v := 3) hx hb dL_law_278 (by decide) ?_
        refine lv_iadd hx hb dL_law_279 ?_
        refine lv_topi (fun x_77 ex_77 => ?_)
        have hx_77 := z_add ex_77 rfl (zk (x := 3) 3 rfl) (by omega) (by omega)
        refine va_sld hx hb hXs hbl hbA hS (z_in rfl (by omega) (by omega)) dL_law_280 ?_
        refine lq_top (v := s3) (by rw [hs3]; exact congrArg xs (by rw [z_nat (x := x_77) rfl]; omega)) ?_
        have hFc := tw_free hF hS hA
        refine va_calli (va_runV (As := [.int s1, .int s2, .int s3]) (rest := []) ⟨hx, hb, hml, hown, hts⟩ (c_away l dC dI ad av H.size a k τ ln y g u s1 s2 s3 hI hFo.1) (cwV 3 hts (gi_4 (im_law _ (List.mem_of_getElem? (i := 14) rfl)) (im_law _ (List.mem_of_getElem? (i := 15) rfl)) (im_law _ (List.mem_of_getElem? (i := 16) rfl)) (im_law _ (List.mem_of_getElem? (i := 3) rfl)) im_c_away gd_c_away) rfl rfl rfl (by decide +kernel) ⟨Nat.le_of_ble_eq_true rfl, Nat.le_of_ble_eq_true rfl⟩) ⟨pw_blind, tw_recv hK hT (fx_0 hX) (by decide) cl_e10 rfl, pw_use hT hK hFc hS hM⟩ rfl rfl hl.1 rfl (lv_room (Nat.le_of_ble_eq_true rfl)) dL_law_281 ⟨by show 200 + 4 * q + 1 ≤ 601024; omega, by show 60000 + 100 * q + 3 ≤ 7293034; omega⟩) hS (fun q _ h => hFc q h) hFc (fun r0 r_78 t H locs ht hvm hw hB hz1 hk1 hS => ?_)
        clear hvm hz1 hk1
        subst hw
        have hIo := hI
        rcases hB with ⟨um_79, hre, hum_79, hf_80, ⟨tm_79, lm_79, ym_79, gm_79, hMo, hKM, hI, hT⟩⟩ | ⟨um_81, hum_81, hf_82, hf_83, hf_84, ⟨tm_81, lm_81, ym_81, gm_81, hMo, hKM, hI, hT⟩⟩
        · refine lq_top (v := (-1)) hre ?_
          rw [ht] at hT
          have hF : ∀ q, tm_79 q ≠ 0 → s.heap.size ≤ q := fun q h => hFc q (hMo.2 q h)
          have hFo := hFo.kp hIo hKM (hum_79 1 (by decide)) (hum_79 2 (by decide)) (hum_79 9 (by decide))
          have hKM := hKM.to0
          have hJ := hJ.kp hKM hI.1
          have hW : IW (v 1) (v 2) (v 9) (ym_79 (a 89)) := by rw [hKM.fx hX (j := 89) (by decide) (by decide)]; exact hW
          have hTh : vb 38408 0 4800 (ym_79 (a 99)) := by rw [hKM.fx hX (j := 99) (by decide) (by decide)]; exact hTh
          have hX := hI.1
          have : um_79 2 = u 2 := hum_79 2 (by decide)
          have : um_79 9 = u 9 := hum_79 9 (by decide)
          refine lv_pop hx hb dL_law_284 rfl ?_
          refine lv_aload_n hx hb dL_law_285 rfl (lv_at hl 2 rfl) ?_
          refine lv_aload_n hx hb dL_law_286 rfl (lv_at hl 0 rfl) ?_
          refine lv_iload hx hb dL_law_287 (lv_at hl 4 rfl) ?_
          refine lv_iconst (v := 1) hx hb dL_law_289 (by decide) ?_
          refine lv_iadd hx hb dL_law_290 ?_
          refine lv_topi (fun x_85 ex_85 => ?_)
          have hx_85 := z_add ex_85 rfl (zk (x := 1) 1 rfl) (by omega) (by omega)
          refine va_sld hx hb hXs hbl hbA hS (z_in rfl (by omega) (by omega)) dL_law_291 ?_
          refine lq_top (v := s1) (by rw [hs1]; exact congrArg xs (by rw [z_nat (x := x_85) rfl]; omega)) ?_
          refine lv_aload_n hx hb dL_law_292 rfl (lv_at hl 0 rfl) ?_
          refine lv_iload hx hb dL_law_293 (lv_at hl 4 rfl) ?_
          refine lv_iconst (v := 2) hx hb dL_law_295 (by decide) ?_
          refine lv_iadd hx hb dL_law_296 ?_
          refine lv_topi (fun x_86 ex_86 => ?_)
          have hx_86 := z_add ex_86 rfl (zk (x := 2) 2 rfl) (by omega) (by omega)
          refine va_sld hx hb hXs hbl hbA hS (z_in rfl (by omega) (by omega)) dL_law_297 ?_
          refine lq_top (v := s2) (by rw [hs2]; exact congrArg xs (by rw [z_nat (x := x_86) rfl]; omega)) ?_
          refine lv_aload_n hx hb dL_law_298 rfl (lv_at hl 0 rfl) ?_
          refine lv_iload hx hb dL_law_299 (lv_at hl 4 rfl) ?_
          refine lv_iconst (v := 3) hx hb dL_law_301 (by decide) ?_
          refine lv_iadd hx hb dL_law_302 ?_
          refine lv_topi (fun x_87 ex_87 => ?_)
          have hx_87 := z_add ex_87 rfl (zk (x := 3) 3 rfl) (by omega) (by omega)
          refine va_sld hx hb hXs hbl hbA hS (z_in rfl (by omega) (by omega)) dL_law_303 ?_
          refine lq_top (v := s3) (by rw [hs3]; exact congrArg xs (by rw [z_nat (x := x_87) rfl]; omega)) ?_
          have hFc := tw_free hF hS hA
          refine va_calli (va_runV (As := [.int s1, .int s2, .int s3]) (rest := []) ⟨hx, hb, hml, hown, hts⟩ (m_away l dC dI ad av H.size a k tm_79 lm_79 ym_79 gm_79 v s1 s2 s3 hJ h3 hW) (cwV 3 hts (gi_4 (im_law _ (List.mem_of_getElem? (i := 17) rfl)) (im_law _ (List.mem_of_getElem? (i := 18) rfl)) (im_law _ (List.mem_of_getElem? (i := 19) rfl)) (im_law _ (List.mem_of_getElem? (i := 7) rfl)) im_m_away gd_m_away) rfl rfl rfl (by decide +kernel) ⟨Nat.le_of_ble_eq_true rfl, Nat.le_of_ble_eq_true rfl⟩) ⟨pw_blind, tw_recv hK hT (fx_50 hX) (by decide) cl_e60 rfl, pw_use hT hK hFc hS hM⟩ rfl rfl hl.1 rfl (lv_room (Nat.le_of_ble_eq_true rfl)) dL_law_304 ⟨by show 200 + 4 * q + 1 + 0 ≤ 601024; omega, by show 60000 + 100 * q + 3 + 0 ≤ 7293034; omega⟩) hS (fun q _ h => hFc q h) hFc (fun r0 r_88 t H locs ht hvm hw hB hz1 hk1 hS => ?_)
          clear hvm hz1 hk1
          subst hw
          have hIo := hI
          rcases hB with ⟨um_89, ym_89, gm_89, hre, hum_89, hgm_89, hggm_89, hJ, hf_90, hf_91, hT⟩ | ⟨um_92, ym_92, gm_92, hum_92, hgm_92, hggm_92, hJ, hf_93, hf_94, hf_95, hT⟩
          · refine lq_top (v := (-1)) hre ?_
            rw [ht] at hT
            have hFo := hFo.m hIo hgm_89 (by decide) (hggm_89 (a 10) (by rw [fx_10 hX]; decide))
            have hI := hI.ag hgm_89 (by decide)
            have hI := hI.agg hggm_89
            have hW : IW (um_89 1) (um_89 2) (um_89 9) (ym_89 (a 89)) := by rw [hgm_89.at (fx_89 hX) (by decide)]; exact iw_u hW (hum_89 1 (by decide)) (hum_89 2 (by decide)) (hum_89 9 (by decide))
            have hTh : vb 38408 0 4800 (ym_89 (a 99)) := by rw [hgm_89.at (fx_99 hX) (by decide)]; exact hTh
            have : um_89 2 = v 2 := hum_89 2 (by decide)
            have : um_89 9 = v 9 := hum_89 9 (by decide)
            have : um_89 10 = v 10 := hum_89 10 (by decide)
            refine lv_pop hx hb dL_law_307 rfl ?_
            refine lv_goto (tgt := 1360) hx hb dL_law_308 (by decide) ?_
            obtain ⟨x_96, ex_96⟩ : ∃ y : Int32, y = i4 + Int32.ofInt 10 := ⟨_, rfl⟩
            have hx_96 := z_add ex_96 rfl (zk (x := Int32.ofInt 10) 10 rfl) (by omega) (by omega)
            refine lv_iinc (v := x_96) (lv' := [(4, .int x_96), (0, .ref b), (1, .ref (a 0)), (2, .ref (a 50)), (3, .ref (a 49))]) hx hb dL_law_1360 hl (k := 4) rfl ex_96.symm (by decide) rfl (fun ls hl => ?_)
            refine lv_goto (tgt := 23) hx hb dL_law_1363 (by decide) ?_
            refine W.widen (k := 200 + 4 * (q + 1)) (n := 60000 + 100 * (q + 1)) (by omega) (by omega) ?_
            exact ih (q + 1) x_96 tm_79 lm_79 ym_89 gm_89 um_79 um_89 H _ ls (by omega) hF hI hJ hW hTh hFo (by omega) (by omega) (by omega) (by omega) (by omega) hT hS (lv_sub hl [1, 2, 3, 4, 0] rfl)
          · rw [ht] at hT
            have hFo := hFo.m hIo hgm_92 (by decide) (hggm_92 (a 10) (by rw [fx_10 hX]; decide))
            have hI := hI.ag hgm_92 (by decide)
            have hI := hI.agg hggm_92
            have hW : IW (um_92 1) (um_92 2) (um_92 9) (ym_92 (a 89)) := by rw [hgm_92.at (fx_89 hX) (by decide)]; exact iw_u hW (hum_92 1 (by decide)) (hum_92 2 (by decide)) (hum_92 9 (by decide))
            have hTh : vb 38408 0 4800 (ym_92 (a 99)) := by rw [hgm_92.at (fx_99 hX) (by decide)]; exact hTh
            have : um_92 2 = v 2 := hum_92 2 (by decide)
            have : um_92 9 = v 9 := hum_92 9 (by decide)
            have : um_92 10 = v 10 := hum_92 10 (by decide)
            refine lv_pop hx hb dL_law_307 rfl ?_
            refine lv_goto (tgt := 1360) hx hb dL_law_308 (by decide) ?_
            obtain ⟨x_97, ex_97⟩ : ∃ y : Int32, y = i4 + Int32.ofInt 10 := ⟨_, rfl⟩
            have hx_97 := z_add ex_97 rfl (zk (x := Int32.ofInt 10) 10 rfl) (by omega) (by omega)
            refine lv_iinc (v := x_97) (lv' := [(4, .int x_97), (0, .ref b), (1, .ref (a 0)), (2, .ref (a 50)), (3, .ref (a 49))]) hx hb dL_law_1360 hl (k := 4) rfl ex_97.symm (by decide) rfl (fun ls hl => ?_)
            refine lv_goto (tgt := 23) hx hb dL_law_1363 (by decide) ?_
            refine W.widen (k := 200 + 4 * (q + 1)) (n := 60000 + 100 * (q + 1)) (by omega) (by omega) ?_
            exact ih (q + 1) x_97 tm_79 lm_79 ym_92 gm_92 um_79 um_92 H _ ls (by omega) hF hI hJ hW hTh hFo (by omega) (by omega) (by omega) (by omega) (by omega) hT hS (lv_sub hl [1, 2, 3, 4, 0] rfl)
        · rw [ht] at hT
          have hF : ∀ q, tm_81 q ≠ 0 → s.heap.size ≤ q := fun q h => hFc q (hMo.2 q h)
          have hFo := hFo.kp hIo hKM (hum_81 1 (by decide)) (hum_81 2 (by decide)) (hum_81 9 (by decide))
          have hKM := hKM.to0
          have hJ := hJ.kp hKM hI.1
          have hW : IW (v 1) (v 2) (v 9) (ym_81 (a 89)) := by rw [hKM.fx hX (j := 89) (by decide) (by decide)]; exact hW
          have hTh : vb 38408 0 4800 (ym_81 (a 99)) := by rw [hKM.fx hX (j := 99) (by decide) (by decide)]; exact hTh
          have hX := hI.1
          have : um_81 2 = u 2 := hum_81 2 (by decide)
          have : um_81 9 = u 9 := hum_81 9 (by decide)
          refine lv_pop hx hb dL_law_284 rfl ?_
          refine lv_aload_n hx hb dL_law_285 rfl (lv_at hl 2 rfl) ?_
          refine lv_aload_n hx hb dL_law_286 rfl (lv_at hl 0 rfl) ?_
          refine lv_iload hx hb dL_law_287 (lv_at hl 4 rfl) ?_
          refine lv_iconst (v := 1) hx hb dL_law_289 (by decide) ?_
          refine lv_iadd hx hb dL_law_290 ?_
          refine lv_topi (fun x_98 ex_98 => ?_)
          have hx_98 := z_add ex_98 rfl (zk (x := 1) 1 rfl) (by omega) (by omega)
          refine va_sld hx hb hXs hbl hbA hS (z_in rfl (by omega) (by omega)) dL_law_291 ?_
          refine lq_top (v := s1) (by rw [hs1]; exact congrArg xs (by rw [z_nat (x := x_98) rfl]; omega)) ?_
          refine lv_aload_n hx hb dL_law_292 rfl (lv_at hl 0 rfl) ?_
          refine lv_iload hx hb dL_law_293 (lv_at hl 4 rfl) ?_
          refine lv_iconst (v := 2) hx hb dL_law_295 (by decide) ?_
          refine lv_iadd hx hb dL_law_296 ?_
          refine lv_topi (fun x_99 ex_99 => ?_)
          have hx_99 := z_add ex_99 rfl (zk (x := 2) 2 rfl) (by omega) (by omega)
          refine va_sld hx hb hXs hbl hbA hS (z_in rfl (by omega) (by omega)) dL_law_297 ?_
          refine lq_top (v := s2) (by rw [hs2]; exact congrArg xs (by rw [z_nat (x := x_99) rfl]; omega)) ?_
          refine lv_aload_n hx hb dL_law_298 rfl (lv_at hl 0 rfl) ?_
          refine lv_iload hx hb dL_law_299 (lv_at hl 4 rfl) ?_
          refine lv_iconst (v := 3) hx hb dL_law_301 (by decide) ?_
          refine lv_iadd hx hb dL_law_302 ?_
          refine lv_topi (fun x_100 ex_100 => ?_)
          have hx_100 := z_add ex_100 rfl (zk (x := 3) 3 rfl) (by omega) (by omega)
          refine va_sld hx hb hXs hbl hbA hS (z_in rfl (by omega) (by omega)) dL_law_303 ?_
          refine lq_top (v := s3) (by rw [hs3]; exact congrArg xs (by rw [z_nat (x := x_100) rfl]; omega)) ?_
          have hFc := tw_free hF hS hA
          refine va_calli (va_runV (As := [.int s1, .int s2, .int s3]) (rest := []) ⟨hx, hb, hml, hown, hts⟩ (m_away l dC dI ad av H.size a k tm_81 lm_81 ym_81 gm_81 v s1 s2 s3 hJ h3 hW) (cwV 3 hts (gi_4 (im_law _ (List.mem_of_getElem? (i := 17) rfl)) (im_law _ (List.mem_of_getElem? (i := 18) rfl)) (im_law _ (List.mem_of_getElem? (i := 19) rfl)) (im_law _ (List.mem_of_getElem? (i := 7) rfl)) im_m_away gd_m_away) rfl rfl rfl (by decide +kernel) ⟨Nat.le_of_ble_eq_true rfl, Nat.le_of_ble_eq_true rfl⟩) ⟨pw_blind, tw_recv hK hT (fx_50 hX) (by decide) cl_e60 rfl, pw_use hT hK hFc hS hM⟩ rfl rfl hl.1 rfl (lv_room (Nat.le_of_ble_eq_true rfl)) dL_law_304 ⟨by show 200 + 4 * q + 1 + 0 ≤ 601024; omega, by show 60000 + 100 * q + 3 + 0 ≤ 7293034; omega⟩) hS (fun q _ h => hFc q h) hFc (fun r0 r_101 t H locs ht hvm hw hB hz1 hk1 hS => ?_)
          clear hvm hz1 hk1
          subst hw
          have hIo := hI
          rcases hB with ⟨um_102, ym_102, gm_102, hre, hum_102, hgm_102, hggm_102, hJ, hf_103, hf_104, hT⟩ | ⟨um_105, ym_105, gm_105, hum_105, hgm_105, hggm_105, hJ, hf_106, hf_107, hf_108, hT⟩
          · refine lq_top (v := (-1)) hre ?_
            rw [ht] at hT
            have hFo := hFo.m hIo hgm_102 (by decide) (hggm_102 (a 10) (by rw [fx_10 hX]; decide))
            have hI := hI.ag hgm_102 (by decide)
            have hI := hI.agg hggm_102
            have hW : IW (um_102 1) (um_102 2) (um_102 9) (ym_102 (a 89)) := by rw [hgm_102.at (fx_89 hX) (by decide)]; exact iw_u hW (hum_102 1 (by decide)) (hum_102 2 (by decide)) (hum_102 9 (by decide))
            have hTh : vb 38408 0 4800 (ym_102 (a 99)) := by rw [hgm_102.at (fx_99 hX) (by decide)]; exact hTh
            have : um_102 2 = v 2 := hum_102 2 (by decide)
            have : um_102 9 = v 9 := hum_102 9 (by decide)
            have : um_102 10 = v 10 := hum_102 10 (by decide)
            refine lv_pop hx hb dL_law_307 rfl ?_
            refine lv_goto (tgt := 1360) hx hb dL_law_308 (by decide) ?_
            obtain ⟨x_109, ex_109⟩ : ∃ y : Int32, y = i4 + Int32.ofInt 10 := ⟨_, rfl⟩
            have hx_109 := z_add ex_109 rfl (zk (x := Int32.ofInt 10) 10 rfl) (by omega) (by omega)
            refine lv_iinc (v := x_109) (lv' := [(4, .int x_109), (0, .ref b), (1, .ref (a 0)), (2, .ref (a 50)), (3, .ref (a 49))]) hx hb dL_law_1360 hl (k := 4) rfl ex_109.symm (by decide) rfl (fun ls hl => ?_)
            refine lv_goto (tgt := 23) hx hb dL_law_1363 (by decide) ?_
            refine W.widen (k := 200 + 4 * (q + 1)) (n := 60000 + 100 * (q + 1)) (by omega) (by omega) ?_
            exact ih (q + 1) x_109 tm_81 lm_81 ym_102 gm_102 um_81 um_102 H _ ls (by omega) hF hI hJ hW hTh hFo (by omega) (by omega) (by omega) (by omega) (by omega) hT hS (lv_sub hl [1, 2, 3, 4, 0] rfl)
          · rw [ht] at hT
            have hFo := hFo.m hIo hgm_105 (by decide) (hggm_105 (a 10) (by rw [fx_10 hX]; decide))
            have hI := hI.ag hgm_105 (by decide)
            have hI := hI.agg hggm_105
            have hW : IW (um_105 1) (um_105 2) (um_105 9) (ym_105 (a 89)) := by rw [hgm_105.at (fx_89 hX) (by decide)]; exact iw_u hW (hum_105 1 (by decide)) (hum_105 2 (by decide)) (hum_105 9 (by decide))
            have hTh : vb 38408 0 4800 (ym_105 (a 99)) := by rw [hgm_105.at (fx_99 hX) (by decide)]; exact hTh
            have : um_105 2 = v 2 := hum_105 2 (by decide)
            have : um_105 9 = v 9 := hum_105 9 (by decide)
            have : um_105 10 = v 10 := hum_105 10 (by decide)
            refine lv_pop hx hb dL_law_307 rfl ?_
            refine lv_goto (tgt := 1360) hx hb dL_law_308 (by decide) ?_
            obtain ⟨x_110, ex_110⟩ : ∃ y : Int32, y = i4 + Int32.ofInt 10 := ⟨_, rfl⟩
            have hx_110 := z_add ex_110 rfl (zk (x := Int32.ofInt 10) 10 rfl) (by omega) (by omega)
            refine lv_iinc (v := x_110) (lv' := [(4, .int x_110), (0, .ref b), (1, .ref (a 0)), (2, .ref (a 50)), (3, .ref (a 49))]) hx hb dL_law_1360 hl (k := 4) rfl ex_110.symm (by decide) rfl (fun ls hl => ?_)
            refine lv_goto (tgt := 23) hx hb dL_law_1363 (by decide) ?_
            refine W.widen (k := 200 + 4 * (q + 1)) (n := 60000 + 100 * (q + 1)) (by omega) (by omega) ?_
            exact ih (q + 1) x_110 tm_81 lm_81 ym_105 gm_105 um_81 um_105 H _ ls (by omega) hF hI hJ hW hTh hFo (by omega) (by omega) (by omega) (by omega) (by omega) hT hS (lv_sub hl [1, 2, 3, 4, 0] rfl)
      · refine lq_top (v := 3) t_5 ?_
        have nt_5 := z_eq rfl (zk (x := 3) 3 rfl) t_5
        refine lv_tableIn (tgt := 311) hx hb dL_law_40 (by decide) (by decide) (off := 271) (by decide) (by decide) ?_
        refine lv_aload_n hx hb dL_law_311 rfl (lv_at hl 1 rfl) ?_
        refine lv_aload_n hx hb dL_law_312 rfl (lv_at hl 0 rfl) ?_
        refine lv_iload hx hb dL_law_313 (lv_at hl 4 rfl) ?_
        refine lv_iconst (v := 1) hx hb dL_law_315 (by decide) ?_
        refine lv_iadd hx hb dL_law_316 ?_
        refine lv_topi (fun x_111 ex_111 => ?_)
        have hx_111 := z_add ex_111 rfl (zk (x := 1) 1 rfl) (by omega) (by omega)
        refine va_sld hx hb hXs hbl hbA hS (z_in rfl (by omega) (by omega)) dL_law_317 ?_
        refine lq_top (v := s1) (by rw [hs1]; exact congrArg xs (by rw [z_nat (x := x_111) rfl]; omega)) ?_
        refine lv_aload_n hx hb dL_law_318 rfl (lv_at hl 0 rfl) ?_
        refine lv_iload hx hb dL_law_319 (lv_at hl 4 rfl) ?_
        refine lv_iconst (v := 2) hx hb dL_law_321 (by decide) ?_
        refine lv_iadd hx hb dL_law_322 ?_
        refine lv_topi (fun x_112 ex_112 => ?_)
        have hx_112 := z_add ex_112 rfl (zk (x := 2) 2 rfl) (by omega) (by omega)
        refine va_sld hx hb hXs hbl hbA hS (z_in rfl (by omega) (by omega)) dL_law_323 ?_
        refine lq_top (v := s2) (by rw [hs2]; exact congrArg xs (by rw [z_nat (x := x_112) rfl]; omega)) ?_
        refine lv_aload_n hx hb dL_law_324 rfl (lv_at hl 0 rfl) ?_
        refine lv_iload hx hb dL_law_325 (lv_at hl 4 rfl) ?_
        refine lv_iconst (v := 3) hx hb dL_law_327 (by decide) ?_
        refine lv_iadd hx hb dL_law_328 ?_
        refine lv_topi (fun x_113 ex_113 => ?_)
        have hx_113 := z_add ex_113 rfl (zk (x := 3) 3 rfl) (by omega) (by omega)
        refine va_sld hx hb hXs hbl hbA hS (z_in rfl (by omega) (by omega)) dL_law_329 ?_
        refine lq_top (v := s3) (by rw [hs3]; exact congrArg xs (by rw [z_nat (x := x_113) rfl]; omega)) ?_
        refine lv_aload_n hx hb dL_law_330 rfl (lv_at hl 0 rfl) ?_
        refine lv_iload hx hb dL_law_331 (lv_at hl 4 rfl) ?_
        refine lv_iconst (v := 4) hx hb dL_law_333 (by decide) ?_
        refine lv_iadd hx hb dL_law_334 ?_
        refine lv_topi (fun x_114 ex_114 => ?_)
        have hx_114 := z_add ex_114 rfl (zk (x := 4) 4 rfl) (by omega) (by omega)
        refine va_sld hx hb hXs hbl hbA hS (z_in rfl (by omega) (by omega)) dL_law_335 ?_
        refine lq_top (v := s4) (by rw [hs4]; exact congrArg xs (by rw [z_nat (x := x_114) rfl]; omega)) ?_
        refine lv_aload_n hx hb dL_law_336 rfl (lv_at hl 0 rfl) ?_
        refine lv_iload hx hb dL_law_337 (lv_at hl 4 rfl) ?_
        refine lv_iconst (v := 5) hx hb dL_law_339 (by decide) ?_
        refine lv_iadd hx hb dL_law_340 ?_
        refine lv_topi (fun x_115 ex_115 => ?_)
        have hx_115 := z_add ex_115 rfl (zk (x := 5) 5 rfl) (by omega) (by omega)
        refine va_sld hx hb hXs hbl hbA hS (z_in rfl (by omega) (by omega)) dL_law_341 ?_
        refine lq_top (v := s5) (by rw [hs5]; exact congrArg xs (by rw [z_nat (x := x_115) rfl]; omega)) ?_
        refine lv_aload_n hx hb dL_law_342 rfl (lv_at hl 0 rfl) ?_
        refine lv_iload hx hb dL_law_343 (lv_at hl 4 rfl) ?_
        refine lv_bipush (v := 6) hx hb dL_law_345 (by decide) ?_
        refine lv_iadd hx hb dL_law_347 ?_
        refine lv_topi (fun x_116 ex_116 => ?_)
        have hx_116 := z_add ex_116 rfl (zk (x := 6) 6 rfl) (by omega) (by omega)
        refine va_sld hx hb hXs hbl hbA hS (z_in rfl (by omega) (by omega)) dL_law_348 ?_
        refine lq_top (v := s6) (by rw [hs6]; exact congrArg xs (by rw [z_nat (x := x_116) rfl]; omega)) ?_
        refine lv_aload_n hx hb dL_law_349 rfl (lv_at hl 0 rfl) ?_
        refine lv_iload hx hb dL_law_350 (lv_at hl 4 rfl) ?_
        refine lv_bipush (v := 7) hx hb dL_law_352 (by decide) ?_
        refine lv_iadd hx hb dL_law_354 ?_
        refine lv_topi (fun x_117 ex_117 => ?_)
        have hx_117 := z_add ex_117 rfl (zk (x := 7) 7 rfl) (by omega) (by omega)
        refine va_sld hx hb hXs hbl hbA hS (z_in rfl (by omega) (by omega)) dL_law_355 ?_
        refine lq_top (v := s7) (by rw [hs7]; exact congrArg xs (by rw [z_nat (x := x_117) rfl]; omega)) ?_
        refine lv_aload_n hx hb dL_law_356 rfl (lv_at hl 0 rfl) ?_
        refine lv_iload hx hb dL_law_357 (lv_at hl 4 rfl) ?_
        refine lv_bipush (v := 8) hx hb dL_law_359 (by decide) ?_
        refine lv_iadd hx hb dL_law_361 ?_
        refine lv_topi (fun x_118 ex_118 => ?_)
        have hx_118 := z_add ex_118 rfl (zk (x := 8) 8 rfl) (by omega) (by omega)
        refine va_sld hx hb hXs hbl hbA hS (z_in rfl (by omega) (by omega)) dL_law_362 ?_
        refine lq_top (v := s8) (by rw [hs8]; exact congrArg xs (by rw [z_nat (x := x_118) rfl]; omega)) ?_
        refine lv_aload_n hx hb dL_law_363 rfl (lv_at hl 0 rfl) ?_
        refine lv_iload hx hb dL_law_364 (lv_at hl 4 rfl) ?_
        refine lv_bipush (v := 9) hx hb dL_law_366 (by decide) ?_
        refine lv_iadd hx hb dL_law_368 ?_
        refine lv_topi (fun x_119 ex_119 => ?_)
        have hx_119 := z_add ex_119 rfl (zk (x := 9) 9 rfl) (by omega) (by omega)
        refine va_sld hx hb hXs hbl hbA hS (z_in rfl (by omega) (by omega)) dL_law_369 ?_
        refine lq_top (v := s9) (by rw [hs9]; exact congrArg xs (by rw [z_nat (x := x_119) rfl]; omega)) ?_
        have hFc := tw_free hF hS hA
        refine va_calli (va_runV (As := [.int s1, .int s2, .int s3, .int s4, .int s5, .int s6, .int s7, .int s8, .int s9]) (rest := []) ⟨hx, hb, hml, hown, hts⟩ (c_pieceF l dC dI ad av H.size a k τ ln y g u s1 s2 s3 s4 s5 s6 s7 s8 s9 hI hFo) (cwV 9 hts (gi_4 (im_law _ (List.mem_of_getElem? (i := 20) rfl)) (im_law _ (List.mem_of_getElem? (i := 21) rfl)) (im_law _ (List.mem_of_getElem? (i := 22) rfl)) (im_law _ (List.mem_of_getElem? (i := 3) rfl)) im_c_pieceF gd_c_pieceF) rfl rfl rfl (by decide +kernel) ⟨Nat.le_of_ble_eq_true rfl, Nat.le_of_ble_eq_true rfl⟩) ⟨pw_blind, tw_recv hK hT (fx_0 hX) (by decide) cl_e10 rfl, pw_use hT hK hFc hS hM⟩ rfl rfl hl.1 rfl (lv_room (Nat.le_of_ble_eq_true rfl)) dL_law_370 ⟨by show 200 + 4 * q + 1 ≤ 601024; omega, by show 60000 + 100 * q + 11 ≤ 7293034; omega⟩) hS (fun q _ h => hFc q h) hFc (fun r0 r_120 t H locs ht hvm hw hB hz1 hk1 hS => ?_)
        clear hvm hz1 hk1
        subst hw
        have hIo := hI
        rcases hB with ⟨um_121, hre, hum_121, hf_122, ⟨tm_121, lm_121, ym_121, gm_121, hMo, hKM, hI, hFo, hT⟩⟩ | ⟨um_123, hum_123, hf_124, hf_125, hf_126, ⟨tm_123, lm_123, ym_123, gm_123, hMo, hKM, hI, hFo, hT⟩⟩
        · refine lq_top (v := (-1)) hre ?_
          rw [ht] at hT
          have hF : ∀ q, tm_121 q ≠ 0 → s.heap.size ≤ q := fun q h => hFc q (hMo.2 q h)
          have hJ := hJ.kp hKM hI.1
          have hW : IW (v 1) (v 2) (v 9) (ym_121 (a 89)) := by rw [hKM.fx hX (j := 89) (by decide) (by decide)]; exact hW
          have hTh : vb 38408 0 4800 (ym_121 (a 99)) := by rw [hKM.fx hX (j := 99) (by decide) (by decide)]; exact hTh
          have hX := hI.1
          have : um_121 2 = u 2 := hum_121 2 (by decide)
          have : um_121 9 = u 9 := hum_121 9 (by decide)
          refine lv_aload_n hx hb dL_law_373 rfl (lv_at hl 2 rfl) ?_
          refine lv_aload_n hx hb dL_law_374 rfl (lv_at hl 0 rfl) ?_
          refine lv_iload hx hb dL_law_375 (lv_at hl 4 rfl) ?_
          refine lv_iconst (v := 1) hx hb dL_law_377 (by decide) ?_
          refine lv_iadd hx hb dL_law_378 ?_
          refine lv_topi (fun x_127 ex_127 => ?_)
          have hx_127 := z_add ex_127 rfl (zk (x := 1) 1 rfl) (by omega) (by omega)
          refine va_sld hx hb hXs hbl hbA hS (z_in rfl (by omega) (by omega)) dL_law_379 ?_
          refine lq_top (v := s1) (by rw [hs1]; exact congrArg xs (by rw [z_nat (x := x_127) rfl]; omega)) ?_
          refine lv_aload_n hx hb dL_law_380 rfl (lv_at hl 0 rfl) ?_
          refine lv_iload hx hb dL_law_381 (lv_at hl 4 rfl) ?_
          refine lv_iconst (v := 2) hx hb dL_law_383 (by decide) ?_
          refine lv_iadd hx hb dL_law_384 ?_
          refine lv_topi (fun x_128 ex_128 => ?_)
          have hx_128 := z_add ex_128 rfl (zk (x := 2) 2 rfl) (by omega) (by omega)
          refine va_sld hx hb hXs hbl hbA hS (z_in rfl (by omega) (by omega)) dL_law_385 ?_
          refine lq_top (v := s2) (by rw [hs2]; exact congrArg xs (by rw [z_nat (x := x_128) rfl]; omega)) ?_
          refine lv_aload_n hx hb dL_law_386 rfl (lv_at hl 0 rfl) ?_
          refine lv_iload hx hb dL_law_387 (lv_at hl 4 rfl) ?_
          refine lv_iconst (v := 3) hx hb dL_law_389 (by decide) ?_
          refine lv_iadd hx hb dL_law_390 ?_
          refine lv_topi (fun x_129 ex_129 => ?_)
          have hx_129 := z_add ex_129 rfl (zk (x := 3) 3 rfl) (by omega) (by omega)
          refine va_sld hx hb hXs hbl hbA hS (z_in rfl (by omega) (by omega)) dL_law_391 ?_
          refine lq_top (v := s3) (by rw [hs3]; exact congrArg xs (by rw [z_nat (x := x_129) rfl]; omega)) ?_
          refine lv_aload_n hx hb dL_law_392 rfl (lv_at hl 0 rfl) ?_
          refine lv_iload hx hb dL_law_393 (lv_at hl 4 rfl) ?_
          refine lv_iconst (v := 4) hx hb dL_law_395 (by decide) ?_
          refine lv_iadd hx hb dL_law_396 ?_
          refine lv_topi (fun x_130 ex_130 => ?_)
          have hx_130 := z_add ex_130 rfl (zk (x := 4) 4 rfl) (by omega) (by omega)
          refine va_sld hx hb hXs hbl hbA hS (z_in rfl (by omega) (by omega)) dL_law_397 ?_
          refine lq_top (v := s4) (by rw [hs4]; exact congrArg xs (by rw [z_nat (x := x_130) rfl]; omega)) ?_
          refine lv_aload_n hx hb dL_law_398 rfl (lv_at hl 0 rfl) ?_
          refine lv_iload hx hb dL_law_399 (lv_at hl 4 rfl) ?_
          refine lv_iconst (v := 5) hx hb dL_law_401 (by decide) ?_
          refine lv_iadd hx hb dL_law_402 ?_
          refine lv_topi (fun x_131 ex_131 => ?_)
          have hx_131 := z_add ex_131 rfl (zk (x := 5) 5 rfl) (by omega) (by omega)
          refine va_sld hx hb hXs hbl hbA hS (z_in rfl (by omega) (by omega)) dL_law_403 ?_
          refine lq_top (v := s5) (by rw [hs5]; exact congrArg xs (by rw [z_nat (x := x_131) rfl]; omega)) ?_
          refine lv_aload_n hx hb dL_law_404 rfl (lv_at hl 0 rfl) ?_
          refine lv_iload hx hb dL_law_405 (lv_at hl 4 rfl) ?_
          refine lv_bipush (v := 6) hx hb dL_law_407 (by decide) ?_
          refine lv_iadd hx hb dL_law_409 ?_
          refine lv_topi (fun x_132 ex_132 => ?_)
          have hx_132 := z_add ex_132 rfl (zk (x := 6) 6 rfl) (by omega) (by omega)
          refine va_sld hx hb hXs hbl hbA hS (z_in rfl (by omega) (by omega)) dL_law_410 ?_
          refine lq_top (v := s6) (by rw [hs6]; exact congrArg xs (by rw [z_nat (x := x_132) rfl]; omega)) ?_
          refine lv_aload_n hx hb dL_law_411 rfl (lv_at hl 0 rfl) ?_
          refine lv_iload hx hb dL_law_412 (lv_at hl 4 rfl) ?_
          refine lv_bipush (v := 7) hx hb dL_law_414 (by decide) ?_
          refine lv_iadd hx hb dL_law_416 ?_
          refine lv_topi (fun x_133 ex_133 => ?_)
          have hx_133 := z_add ex_133 rfl (zk (x := 7) 7 rfl) (by omega) (by omega)
          refine va_sld hx hb hXs hbl hbA hS (z_in rfl (by omega) (by omega)) dL_law_417 ?_
          refine lq_top (v := s7) (by rw [hs7]; exact congrArg xs (by rw [z_nat (x := x_133) rfl]; omega)) ?_
          refine lv_aload_n hx hb dL_law_418 rfl (lv_at hl 0 rfl) ?_
          refine lv_iload hx hb dL_law_419 (lv_at hl 4 rfl) ?_
          refine lv_bipush (v := 8) hx hb dL_law_421 (by decide) ?_
          refine lv_iadd hx hb dL_law_423 ?_
          refine lv_topi (fun x_134 ex_134 => ?_)
          have hx_134 := z_add ex_134 rfl (zk (x := 8) 8 rfl) (by omega) (by omega)
          refine va_sld hx hb hXs hbl hbA hS (z_in rfl (by omega) (by omega)) dL_law_424 ?_
          refine lq_top (v := s8) (by rw [hs8]; exact congrArg xs (by rw [z_nat (x := x_134) rfl]; omega)) ?_
          refine lv_aload_n hx hb dL_law_425 rfl (lv_at hl 0 rfl) ?_
          refine lv_iload hx hb dL_law_426 (lv_at hl 4 rfl) ?_
          refine lv_bipush (v := 9) hx hb dL_law_428 (by decide) ?_
          refine lv_iadd hx hb dL_law_430 ?_
          refine lv_topi (fun x_135 ex_135 => ?_)
          have hx_135 := z_add ex_135 rfl (zk (x := 9) 9 rfl) (by omega) (by omega)
          refine va_sld hx hb hXs hbl hbA hS (z_in rfl (by omega) (by omega)) dL_law_431 ?_
          refine lq_top (v := s9) (by rw [hs9]; exact congrArg xs (by rw [z_nat (x := x_135) rfl]; omega)) ?_
          have hFc := tw_free hF hS hA
          refine va_calli (va_runV (As := [.int s1, .int s2, .int s3, .int s4, .int s5, .int s6, .int s7, .int s8, .int s9]) (rest := [.int (-1)]) ⟨hx, hb, hml, hown, hts⟩ (m_pieceN l dC dI ad av H.size a k tm_121 lm_121 ym_121 gm_121 v s1 s2 s3 s4 s5 s6 s7 s8 s9 hJ hW) (cwV 9 hts (gi_4 (im_law _ (List.mem_of_getElem? (i := 23) rfl)) (im_law _ (List.mem_of_getElem? (i := 24) rfl)) (im_law _ (List.mem_of_getElem? (i := 25) rfl)) (im_law _ (List.mem_of_getElem? (i := 7) rfl)) im_m_pieceN gd_m_pieceN) rfl rfl rfl (by decide +kernel) ⟨Nat.le_of_ble_eq_true rfl, Nat.le_of_ble_eq_true rfl⟩) ⟨pw_blind, tw_recv hK hT (fx_50 hX) (by decide) cl_e60 rfl, pw_use hT hK hFc hS hM⟩ rfl rfl hl.1 rfl (lv_room (Nat.le_of_ble_eq_true rfl)) dL_law_432 ⟨by show 200 + 4 * q + 1 + 0 ≤ 601024; omega, by show 60000 + 100 * q + 11 + 0 ≤ 7293034; omega⟩) hS (fun q _ h => hFc q h) hFc (fun r0 r_136 t H locs ht hvm hw hB hz1 hk1 hS => ?_)
          clear hvm hz1 hk1
          subst hw
          have hIo := hI
          rcases hB with ⟨um_137, ym_137, gm_137, hre, hum_137, hgm_137, hggm_137, hJ, hW, hf_138, hf_139, hT⟩ | ⟨um_140, ym_140, gm_140, hum_140, hgm_140, hggm_140, hJ, hW, hf_141, hf_142, hf_143, hT⟩
          · refine lq_top (v := (-1)) hre ?_
            rw [ht] at hT
            have hFo := hFo.m hIo hgm_137 (by decide) (hggm_137 (a 10) (by rw [fx_10 hX]; decide))
            have hI := hI.ag hgm_137 (by decide)
            have hI := hI.agg hggm_137
            have hTh : vb 38408 0 4800 (ym_137 (a 99)) := by rw [hgm_137.at (fx_99 hX) (by decide)]; exact hTh
            have : um_137 9 = v 9 := hum_137 9 (by decide)
            have : um_137 3 = v 3 := hum_137 3 (by decide)
            have : um_137 10 = v 10 := hum_137 10 (by decide)
            refine lv_icmp_eq (tgt := 1360) hx hb dL_law_435 (by decide) (fun c_144 => ?_) (fun c_144 => absurd c_144 (by decide))
            obtain ⟨x_145, ex_145⟩ : ∃ y : Int32, y = i4 + Int32.ofInt 10 := ⟨_, rfl⟩
            have hx_145 := z_add ex_145 rfl (zk (x := Int32.ofInt 10) 10 rfl) (by omega) (by omega)
            refine lv_iinc (v := x_145) (lv' := [(4, .int x_145), (0, .ref b), (1, .ref (a 0)), (2, .ref (a 50)), (3, .ref (a 49))]) hx hb dL_law_1360 hl (k := 4) rfl ex_145.symm (by decide) rfl (fun ls hl => ?_)
            refine lv_goto (tgt := 23) hx hb dL_law_1363 (by decide) ?_
            refine W.widen (k := 200 + 4 * (q + 1)) (n := 60000 + 100 * (q + 1)) (by omega) (by omega) ?_
            exact ih (q + 1) x_145 tm_121 lm_121 ym_137 gm_137 um_121 um_137 H _ ls (by omega) hF hI hJ hW hTh hFo (by omega) (by omega) (by omega) (by omega) (by omega) hT hS (lv_sub hl [1, 2, 3, 4, 0] rfl)
          · rw [ht] at hT
            have hFo := hFo.m hIo hgm_140 (by decide) (hggm_140 (a 10) (by rw [fx_10 hX]; decide))
            have hI := hI.ag hgm_140 (by decide)
            have hI := hI.agg hggm_140
            have hTh : vb 38408 0 4800 (ym_140 (a 99)) := by rw [hgm_140.at (fx_99 hX) (by decide)]; exact hTh
            have : um_140 9 = v 9 := hum_140 9 (by decide)
            have : um_140 3 = v 3 := hum_140 3 (by decide)
            have : um_140 10 = v 10 := hum_140 10 (by decide)
            refine lv_icmp_eq (tgt := 1360) hx hb dL_law_435 (by decide) (fun c_146 => ?_) (fun c_146 => ?_)
            · have nc_146 := z_eq (zk (x := (-1)) (-1) rfl) rfl c_146
              obtain ⟨x_147, ex_147⟩ : ∃ y : Int32, y = i4 + Int32.ofInt 10 := ⟨_, rfl⟩
              have hx_147 := z_add ex_147 rfl (zk (x := Int32.ofInt 10) 10 rfl) (by omega) (by omega)
              refine lv_iinc (v := x_147) (lv' := [(4, .int x_147), (0, .ref b), (1, .ref (a 0)), (2, .ref (a 50)), (3, .ref (a 49))]) hx hb dL_law_1360 hl (k := 4) rfl ex_147.symm (by decide) rfl (fun ls hl => ?_)
              refine lv_goto (tgt := 23) hx hb dL_law_1363 (by decide) ?_
              refine W.widen (k := 200 + 4 * (q + 1)) (n := 60000 + 100 * (q + 1)) (by omega) (by omega) ?_
              exact ih (q + 1) x_147 tm_121 lm_121 ym_140 gm_140 um_121 um_140 H _ ls (by omega) hF hI hJ hW hTh hFo (by omega) (by omega) (by omega) (by omega) (by omega) hT hS (lv_sub hl [1, 2, 3, 4, 0] rfl)
            · have nc_146 := z_ne (zk (x := (-1)) (-1) rfl) rfl c_146
              exfalso; omega
        · rw [ht] at hT
          have hF : ∀ q, tm_123 q ≠ 0 → s.heap.size ≤ q := fun q h => hFc q (hMo.2 q h)
          have hJ := hJ.kp hKM hI.1
          have hW : IW (v 1) (v 2) (v 9) (ym_123 (a 89)) := by rw [hKM.fx hX (j := 89) (by decide) (by decide)]; exact hW
          have hTh : vb 38408 0 4800 (ym_123 (a 99)) := by rw [hKM.fx hX (j := 99) (by decide) (by decide)]; exact hTh
          have hX := hI.1
          have : um_123 9 = u 9 := hum_123 9 (by decide)
          refine lv_aload_n hx hb dL_law_373 rfl (lv_at hl 2 rfl) ?_
          refine lv_aload_n hx hb dL_law_374 rfl (lv_at hl 0 rfl) ?_
          refine lv_iload hx hb dL_law_375 (lv_at hl 4 rfl) ?_
          refine lv_iconst (v := 1) hx hb dL_law_377 (by decide) ?_
          refine lv_iadd hx hb dL_law_378 ?_
          refine lv_topi (fun x_148 ex_148 => ?_)
          have hx_148 := z_add ex_148 rfl (zk (x := 1) 1 rfl) (by omega) (by omega)
          refine va_sld hx hb hXs hbl hbA hS (z_in rfl (by omega) (by omega)) dL_law_379 ?_
          refine lq_top (v := s1) (by rw [hs1]; exact congrArg xs (by rw [z_nat (x := x_148) rfl]; omega)) ?_
          refine lv_aload_n hx hb dL_law_380 rfl (lv_at hl 0 rfl) ?_
          refine lv_iload hx hb dL_law_381 (lv_at hl 4 rfl) ?_
          refine lv_iconst (v := 2) hx hb dL_law_383 (by decide) ?_
          refine lv_iadd hx hb dL_law_384 ?_
          refine lv_topi (fun x_149 ex_149 => ?_)
          have hx_149 := z_add ex_149 rfl (zk (x := 2) 2 rfl) (by omega) (by omega)
          refine va_sld hx hb hXs hbl hbA hS (z_in rfl (by omega) (by omega)) dL_law_385 ?_
          refine lq_top (v := s2) (by rw [hs2]; exact congrArg xs (by rw [z_nat (x := x_149) rfl]; omega)) ?_
          refine lv_aload_n hx hb dL_law_386 rfl (lv_at hl 0 rfl) ?_
          refine lv_iload hx hb dL_law_387 (lv_at hl 4 rfl) ?_
          refine lv_iconst (v := 3) hx hb dL_law_389 (by decide) ?_
          refine lv_iadd hx hb dL_law_390 ?_
          refine lv_topi (fun x_150 ex_150 => ?_)
          have hx_150 := z_add ex_150 rfl (zk (x := 3) 3 rfl) (by omega) (by omega)
          refine va_sld hx hb hXs hbl hbA hS (z_in rfl (by omega) (by omega)) dL_law_391 ?_
          refine lq_top (v := s3) (by rw [hs3]; exact congrArg xs (by rw [z_nat (x := x_150) rfl]; omega)) ?_
          refine lv_aload_n hx hb dL_law_392 rfl (lv_at hl 0 rfl) ?_
          refine lv_iload hx hb dL_law_393 (lv_at hl 4 rfl) ?_
          refine lv_iconst (v := 4) hx hb dL_law_395 (by decide) ?_
          refine lv_iadd hx hb dL_law_396 ?_
          refine lv_topi (fun x_151 ex_151 => ?_)
          have hx_151 := z_add ex_151 rfl (zk (x := 4) 4 rfl) (by omega) (by omega)
          refine va_sld hx hb hXs hbl hbA hS (z_in rfl (by omega) (by omega)) dL_law_397 ?_
          refine lq_top (v := s4) (by rw [hs4]; exact congrArg xs (by rw [z_nat (x := x_151) rfl]; omega)) ?_
          refine lv_aload_n hx hb dL_law_398 rfl (lv_at hl 0 rfl) ?_
          refine lv_iload hx hb dL_law_399 (lv_at hl 4 rfl) ?_
          refine lv_iconst (v := 5) hx hb dL_law_401 (by decide) ?_
          refine lv_iadd hx hb dL_law_402 ?_
          refine lv_topi (fun x_152 ex_152 => ?_)
          have hx_152 := z_add ex_152 rfl (zk (x := 5) 5 rfl) (by omega) (by omega)
          refine va_sld hx hb hXs hbl hbA hS (z_in rfl (by omega) (by omega)) dL_law_403 ?_
          refine lq_top (v := s5) (by rw [hs5]; exact congrArg xs (by rw [z_nat (x := x_152) rfl]; omega)) ?_
          refine lv_aload_n hx hb dL_law_404 rfl (lv_at hl 0 rfl) ?_
          refine lv_iload hx hb dL_law_405 (lv_at hl 4 rfl) ?_
          refine lv_bipush (v := 6) hx hb dL_law_407 (by decide) ?_
          refine lv_iadd hx hb dL_law_409 ?_
          refine lv_topi (fun x_153 ex_153 => ?_)
          have hx_153 := z_add ex_153 rfl (zk (x := 6) 6 rfl) (by omega) (by omega)
          refine va_sld hx hb hXs hbl hbA hS (z_in rfl (by omega) (by omega)) dL_law_410 ?_
          refine lq_top (v := s6) (by rw [hs6]; exact congrArg xs (by rw [z_nat (x := x_153) rfl]; omega)) ?_
          refine lv_aload_n hx hb dL_law_411 rfl (lv_at hl 0 rfl) ?_
          refine lv_iload hx hb dL_law_412 (lv_at hl 4 rfl) ?_
          refine lv_bipush (v := 7) hx hb dL_law_414 (by decide) ?_
          refine lv_iadd hx hb dL_law_416 ?_
          refine lv_topi (fun x_154 ex_154 => ?_)
          have hx_154 := z_add ex_154 rfl (zk (x := 7) 7 rfl) (by omega) (by omega)
          refine va_sld hx hb hXs hbl hbA hS (z_in rfl (by omega) (by omega)) dL_law_417 ?_
          refine lq_top (v := s7) (by rw [hs7]; exact congrArg xs (by rw [z_nat (x := x_154) rfl]; omega)) ?_
          refine lv_aload_n hx hb dL_law_418 rfl (lv_at hl 0 rfl) ?_
          refine lv_iload hx hb dL_law_419 (lv_at hl 4 rfl) ?_
          refine lv_bipush (v := 8) hx hb dL_law_421 (by decide) ?_
          refine lv_iadd hx hb dL_law_423 ?_
          refine lv_topi (fun x_155 ex_155 => ?_)
          have hx_155 := z_add ex_155 rfl (zk (x := 8) 8 rfl) (by omega) (by omega)
          refine va_sld hx hb hXs hbl hbA hS (z_in rfl (by omega) (by omega)) dL_law_424 ?_
          refine lq_top (v := s8) (by rw [hs8]; exact congrArg xs (by rw [z_nat (x := x_155) rfl]; omega)) ?_
          refine lv_aload_n hx hb dL_law_425 rfl (lv_at hl 0 rfl) ?_
          refine lv_iload hx hb dL_law_426 (lv_at hl 4 rfl) ?_
          refine lv_bipush (v := 9) hx hb dL_law_428 (by decide) ?_
          refine lv_iadd hx hb dL_law_430 ?_
          refine lv_topi (fun x_156 ex_156 => ?_)
          have hx_156 := z_add ex_156 rfl (zk (x := 9) 9 rfl) (by omega) (by omega)
          refine va_sld hx hb hXs hbl hbA hS (z_in rfl (by omega) (by omega)) dL_law_431 ?_
          refine lq_top (v := s9) (by rw [hs9]; exact congrArg xs (by rw [z_nat (x := x_156) rfl]; omega)) ?_
          have hFc := tw_free hF hS hA
          refine va_calli (va_runV (As := [.int s1, .int s2, .int s3, .int s4, .int s5, .int s6, .int s7, .int s8, .int s9]) (rest := [.int r_120]) ⟨hx, hb, hml, hown, hts⟩ (m_pieceN l dC dI ad av H.size a k tm_123 lm_123 ym_123 gm_123 v s1 s2 s3 s4 s5 s6 s7 s8 s9 hJ hW) (cwV 9 hts (gi_4 (im_law _ (List.mem_of_getElem? (i := 23) rfl)) (im_law _ (List.mem_of_getElem? (i := 24) rfl)) (im_law _ (List.mem_of_getElem? (i := 25) rfl)) (im_law _ (List.mem_of_getElem? (i := 7) rfl)) im_m_pieceN gd_m_pieceN) rfl rfl rfl (by decide +kernel) ⟨Nat.le_of_ble_eq_true rfl, Nat.le_of_ble_eq_true rfl⟩) ⟨pw_blind, tw_recv hK hT (fx_50 hX) (by decide) cl_e60 rfl, pw_use hT hK hFc hS hM⟩ rfl rfl hl.1 rfl (lv_room (Nat.le_of_ble_eq_true rfl)) dL_law_432 ⟨by show 200 + 4 * q + 1 + 0 ≤ 601024; omega, by show 60000 + 100 * q + 11 + 0 ≤ 7293034; omega⟩) hS (fun q _ h => hFc q h) hFc (fun r0 r_157 t H locs ht hvm hw hB hz1 hk1 hS => ?_)
          clear hvm hz1 hk1
          subst hw
          have hIo := hI
          rcases hB with ⟨um_158, ym_158, gm_158, hre, hum_158, hgm_158, hggm_158, hJ, hW, hf_159, hf_160, hT⟩ | ⟨um_161, ym_161, gm_161, hum_161, hgm_161, hggm_161, hJ, hW, hf_162, hf_163, hf_164, hT⟩
          · refine lq_top (v := (-1)) hre ?_
            rw [ht] at hT
            have hFo := hFo.m hIo hgm_158 (by decide) (hggm_158 (a 10) (by rw [fx_10 hX]; decide))
            have hI := hI.ag hgm_158 (by decide)
            have hI := hI.agg hggm_158
            have hTh : vb 38408 0 4800 (ym_158 (a 99)) := by rw [hgm_158.at (fx_99 hX) (by decide)]; exact hTh
            have : um_158 9 = v 9 := hum_158 9 (by decide)
            have : um_158 3 = v 3 := hum_158 3 (by decide)
            have : um_158 10 = v 10 := hum_158 10 (by decide)
            refine lv_icmp_eq (tgt := 1360) hx hb dL_law_435 (by decide) (fun c_165 => ?_) (fun c_165 => ?_)
            · have nc_165 := z_eq rfl (zk (x := (-1)) (-1) rfl) c_165
              obtain ⟨x_166, ex_166⟩ : ∃ y : Int32, y = i4 + Int32.ofInt 10 := ⟨_, rfl⟩
              have hx_166 := z_add ex_166 rfl (zk (x := Int32.ofInt 10) 10 rfl) (by omega) (by omega)
              refine lv_iinc (v := x_166) (lv' := [(4, .int x_166), (0, .ref b), (1, .ref (a 0)), (2, .ref (a 50)), (3, .ref (a 49))]) hx hb dL_law_1360 hl (k := 4) rfl ex_166.symm (by decide) rfl (fun ls hl => ?_)
              refine lv_goto (tgt := 23) hx hb dL_law_1363 (by decide) ?_
              refine W.widen (k := 200 + 4 * (q + 1)) (n := 60000 + 100 * (q + 1)) (by omega) (by omega) ?_
              exact ih (q + 1) x_166 tm_123 lm_123 ym_158 gm_158 um_123 um_158 H _ ls (by omega) hF hI hJ hW hTh hFo (by omega) (by omega) (by omega) (by omega) (by omega) hT hS (lv_sub hl [1, 2, 3, 4, 0] rfl)
            · have nc_165 := z_ne rfl (zk (x := (-1)) (-1) rfl) c_165
              exfalso; omega
          · rw [ht] at hT
            have hFo := hFo.m hIo hgm_161 (by decide) (hggm_161 (a 10) (by rw [fx_10 hX]; decide))
            have hI := hI.ag hgm_161 (by decide)
            have hI := hI.agg hggm_161
            have hTh : vb 38408 0 4800 (ym_161 (a 99)) := by rw [hgm_161.at (fx_99 hX) (by decide)]; exact hTh
            have : um_161 9 = v 9 := hum_161 9 (by decide)
            have : um_161 3 = v 3 := hum_161 3 (by decide)
            have : um_161 10 = v 10 := hum_161 10 (by decide)
            refine lv_icmp_eq (tgt := 1360) hx hb dL_law_435 (by decide) (fun c_167 => ?_) (fun c_167 => ?_)
            · have nc_167 := z_eq rfl rfl c_167
              obtain ⟨x_168, ex_168⟩ : ∃ y : Int32, y = i4 + Int32.ofInt 10 := ⟨_, rfl⟩
              have hx_168 := z_add ex_168 rfl (zk (x := Int32.ofInt 10) 10 rfl) (by omega) (by omega)
              refine lv_iinc (v := x_168) (lv' := [(4, .int x_168), (0, .ref b), (1, .ref (a 0)), (2, .ref (a 50)), (3, .ref (a 49))]) hx hb dL_law_1360 hl (k := 4) rfl ex_168.symm (by decide) rfl (fun ls hl => ?_)
              refine lv_goto (tgt := 23) hx hb dL_law_1363 (by decide) ?_
              refine W.widen (k := 200 + 4 * (q + 1)) (n := 60000 + 100 * (q + 1)) (by omega) (by omega) ?_
              exact ih (q + 1) x_168 tm_123 lm_123 ym_161 gm_161 um_123 um_161 H _ ls (by omega) hF hI hJ hW hTh hFo (by omega) (by omega) (by omega) (by omega) (by omega) hT hS (lv_sub hl [1, 2, 3, 4, 0] rfl)
            · have nc_167 := z_ne rfl rfl c_167
              exfalso; omega
      · refine lq_top (v := 4) t_5 ?_
        have nt_5 := z_eq rfl (zk (x := 4) 4 rfl) t_5
        refine lv_tableIn (tgt := 440) hx hb dL_law_40 (by decide) (by decide) (off := 400) (by decide) (by decide) ?_
        refine lv_aload_n hx hb dL_law_440 rfl (lv_at hl 1 rfl) ?_
        refine lv_aload_n hx hb dL_law_441 rfl (lv_at hl 0 rfl) ?_
        refine lv_iload hx hb dL_law_442 (lv_at hl 4 rfl) ?_
        refine lv_iconst (v := 1) hx hb dL_law_444 (by decide) ?_
        refine lv_iadd hx hb dL_law_445 ?_
        refine lv_topi (fun x_169 ex_169 => ?_)
        have hx_169 := z_add ex_169 rfl (zk (x := 1) 1 rfl) (by omega) (by omega)
        refine va_sld hx hb hXs hbl hbA hS (z_in rfl (by omega) (by omega)) dL_law_446 ?_
        refine lq_top (v := s1) (by rw [hs1]; exact congrArg xs (by rw [z_nat (x := x_169) rfl]; omega)) ?_
        have hFc := tw_free hF hS hA
        refine va_calli (va_runV (As := [.int s1]) (rest := []) ⟨hx, hb, hml, hown, hts⟩ (c_sign l dC dI ad av H.size a k τ ln y g u s1 hI ) (cwV 1 hts (gi_4 (im_law _ (List.mem_of_getElem? (i := 26) rfl)) (im_law _ (List.mem_of_getElem? (i := 27) rfl)) (im_law _ (List.mem_of_getElem? (i := 28) rfl)) (im_law _ (List.mem_of_getElem? (i := 3) rfl)) im_c_sign gd_c_sign) rfl rfl rfl (by decide +kernel) ⟨Nat.le_of_ble_eq_true rfl, Nat.le_of_ble_eq_true rfl⟩) ⟨pw_blind, tw_recv hK hT (fx_0 hX) (by decide) cl_e10 rfl, pw_use hT hK hFc hS hM⟩ rfl rfl hl.1 rfl (lv_room (Nat.le_of_ble_eq_true rfl)) dL_law_447 ⟨by show 200 + 4 * q + 0 ≤ 601024; omega, by show 60000 + 100 * q + 0 ≤ 7293034; omega⟩) hS (fun q _ h => hFc q h) hFc (fun r0 r_170 t H locs ht hvm hw hB hz1 hk1 hS => ?_)
        clear hvm hz1 hk1
        subst hw
        have hIo := hI
        obtain ⟨um_171, hum_171, ⟨tm_171, lm_171, ym_171, gm_171, hMo, hKM, hI, hT⟩⟩ := hB
        rw [ht] at hT
        have hF : ∀ q, tm_171 q ≠ 0 → s.heap.size ≤ q := fun q h => hFc q (hMo.2 q h)
        have hFo := hFo.kp hIo hKM (hum_171 1 (by decide)) (hum_171 2 (by decide)) (hum_171 9 (by decide))
        have hKM := hKM.to0
        have hJ := hJ.kp hKM hI.1
        have hW : IW (v 1) (v 2) (v 9) (ym_171 (a 89)) := by rw [hKM.fx hX (j := 89) (by decide) (by decide)]; exact hW
        have hTh : vb 38408 0 4800 (ym_171 (a 99)) := by rw [hKM.fx hX (j := 99) (by decide) (by decide)]; exact hTh
        have hX := hI.1
        have : um_171 2 = u 2 := hum_171 2 (by decide)
        have : um_171 9 = u 9 := hum_171 9 (by decide)
        refine lv_pop hx hb dL_law_450 rfl ?_
        refine lv_aload_n hx hb dL_law_451 rfl (lv_at hl 2 rfl) ?_
        refine lv_aload_n hx hb dL_law_452 rfl (lv_at hl 0 rfl) ?_
        refine lv_iload hx hb dL_law_453 (lv_at hl 4 rfl) ?_
        refine lv_iconst (v := 1) hx hb dL_law_455 (by decide) ?_
        refine lv_iadd hx hb dL_law_456 ?_
        refine lv_topi (fun x_172 ex_172 => ?_)
        have hx_172 := z_add ex_172 rfl (zk (x := 1) 1 rfl) (by omega) (by omega)
        refine va_sld hx hb hXs hbl hbA hS (z_in rfl (by omega) (by omega)) dL_law_457 ?_
        refine lq_top (v := s1) (by rw [hs1]; exact congrArg xs (by rw [z_nat (x := x_172) rfl]; omega)) ?_
        have hFc := tw_free hF hS hA
        refine va_calli (va_runV (As := [.int s1]) (rest := []) ⟨hx, hb, hml, hown, hts⟩ (m_sign l dC dI ad av H.size a k tm_171 lm_171 ym_171 gm_171 v s1 hJ hW) (cwV 1 hts (gi_4 (im_law _ (List.mem_of_getElem? (i := 29) rfl)) (im_law _ (List.mem_of_getElem? (i := 30) rfl)) (im_law _ (List.mem_of_getElem? (i := 31) rfl)) (im_law _ (List.mem_of_getElem? (i := 7) rfl)) im_m_sign gd_m_sign) rfl rfl rfl (by decide +kernel) ⟨Nat.le_of_ble_eq_true rfl, Nat.le_of_ble_eq_true rfl⟩) ⟨pw_blind, tw_recv hK hT (fx_50 hX) (by decide) cl_e60 rfl, pw_use hT hK hFc hS hM⟩ rfl rfl hl.1 rfl (lv_room (Nat.le_of_ble_eq_true rfl)) dL_law_458 ⟨by show 200 + 4 * q + 0 + 0 ≤ 601024; omega, by show 60000 + 100 * q + 0 + 0 ≤ 7293034; omega⟩) hS (fun q _ h => hFc q h) hFc (fun r0 r_173 t H locs ht hvm hw hB hz1 hk1 hS => ?_)
        clear hvm hz1 hk1
        subst hw
        have hIo := hI
        obtain ⟨um_174, ym_174, gm_174, hum_174, hgm_174, hggm_174, hJ, hT⟩ := hB
        rw [ht] at hT
        have hFo := hFo.m hIo hgm_174 (by decide) (hggm_174 (a 10) (by rw [fx_10 hX]; decide))
        have hI := hI.ag hgm_174 (by decide)
        have hI := hI.agg hggm_174
        have hW : IW (um_174 1) (um_174 2) (um_174 9) (ym_174 (a 89)) := by rw [hgm_174.at (fx_89 hX) (by decide)]; exact iw_u hW (hum_174 1 (by decide)) (hum_174 2 (by decide)) (hum_174 9 (by decide))
        have hTh : vb 38408 0 4800 (ym_174 (a 99)) := by rw [hgm_174.at (fx_99 hX) (by decide)]; exact hTh
        have : um_174 2 = v 2 := hum_174 2 (by decide)
        have : um_174 9 = v 9 := hum_174 9 (by decide)
        have : um_174 3 = v 3 := hum_174 3 (by decide)
        have : um_174 10 = v 10 := hum_174 10 (by decide)
        refine lv_pop hx hb dL_law_461 rfl ?_
        refine lv_goto (tgt := 1360) hx hb dL_law_462 (by decide) ?_
        obtain ⟨x_175, ex_175⟩ : ∃ y : Int32, y = i4 + Int32.ofInt 10 := ⟨_, rfl⟩
        have hx_175 := z_add ex_175 rfl (zk (x := Int32.ofInt 10) 10 rfl) (by omega) (by omega)
        refine lv_iinc (v := x_175) (lv' := [(4, .int x_175), (0, .ref b), (1, .ref (a 0)), (2, .ref (a 50)), (3, .ref (a 49))]) hx hb dL_law_1360 hl (k := 4) rfl ex_175.symm (by decide) rfl (fun ls hl => ?_)
        refine lv_goto (tgt := 23) hx hb dL_law_1363 (by decide) ?_
        refine W.widen (k := 200 + 4 * (q + 1)) (n := 60000 + 100 * (q + 1)) (by omega) (by omega) ?_
        exact ih (q + 1) x_175 tm_171 lm_171 ym_174 gm_174 um_171 um_174 H _ ls (by omega) hF hI hJ hW hTh hFo (by omega) (by omega) (by omega) (by omega) (by omega) hT hS (lv_sub hl [1, 2, 3, 4, 0] rfl)
      · refine lq_top (v := 5) t_5 ?_
        have nt_5 := z_eq rfl (zk (x := 5) 5 rfl) t_5
        refine lv_tableIn (tgt := 465) hx hb dL_law_40 (by decide) (by decide) (off := 425) (by decide) (by decide) ?_
        refine lv_aload_n hx hb dL_law_465 rfl (lv_at hl 1 rfl) ?_
        refine lv_aload_n hx hb dL_law_466 rfl (lv_at hl 0 rfl) ?_
        refine lv_iload hx hb dL_law_467 (lv_at hl 4 rfl) ?_
        refine lv_iconst (v := 1) hx hb dL_law_469 (by decide) ?_
        refine lv_iadd hx hb dL_law_470 ?_
        refine lv_topi (fun x_176 ex_176 => ?_)
        have hx_176 := z_add ex_176 rfl (zk (x := 1) 1 rfl) (by omega) (by omega)
        refine va_sld hx hb hXs hbl hbA hS (z_in rfl (by omega) (by omega)) dL_law_471 ?_
        refine lq_top (v := s1) (by rw [hs1]; exact congrArg xs (by rw [z_nat (x := x_176) rfl]; omega)) ?_
        have hFc := tw_free hF hS hA
        refine va_calli (va_runV (As := [.int s1]) (rest := []) ⟨hx, hb, hml, hown, hts⟩ (c_end l dC dI ad av H.size a k τ ln y g u s1 hI ) (cwV 1 hts (gi_4 (im_law _ (List.mem_of_getElem? (i := 32) rfl)) (im_law _ (List.mem_of_getElem? (i := 33) rfl)) (im_law _ (List.mem_of_getElem? (i := 34) rfl)) (im_law _ (List.mem_of_getElem? (i := 3) rfl)) im_c_end gd_c_end) rfl rfl rfl (by decide +kernel) ⟨Nat.le_of_ble_eq_true rfl, Nat.le_of_ble_eq_true rfl⟩) ⟨pw_blind, tw_recv hK hT (fx_0 hX) (by decide) cl_e10 rfl, pw_use hT hK hFc hS hM⟩ rfl rfl hl.1 rfl (lv_room (Nat.le_of_ble_eq_true rfl)) dL_law_472 ⟨by show 200 + 4 * q + 0 ≤ 601024; omega, by show 60000 + 100 * q + 0 ≤ 7293034; omega⟩) hS (fun q _ h => hFc q h) hFc (fun r0 r_177 t H locs ht hvm hw hB hz1 hk1 hS => ?_)
        clear hvm hz1 hk1
        subst hw
        have hIo := hI
        rcases hB with ⟨um_178, hre, hum_178, ⟨tm_178, lm_178, ym_178, gm_178, hMo, hKM, hI, hT⟩⟩ | ⟨um_179, hre, hum_179, ⟨tm_179, lm_179, ym_179, gm_179, hMo, hKM, hI, hT⟩⟩
        · refine lq_top (v := 1) hre ?_
          rw [ht] at hT
          have hF : ∀ q, tm_178 q ≠ 0 → s.heap.size ≤ q := fun q h => hFc q (hMo.2 q h)
          have hFo := hFo.kp hIo hKM (hum_178 1 (by decide)) (hum_178 2 (by decide)) (hum_178 9 (by decide))
          have hKM := hKM.to0
          have hJ := hJ.kp hKM hI.1
          have hW : IW (v 1) (v 2) (v 9) (ym_178 (a 89)) := by rw [hKM.fx hX (j := 89) (by decide) (by decide)]; exact hW
          have hTh : vb 38408 0 4800 (ym_178 (a 99)) := by rw [hKM.fx hX (j := 99) (by decide) (by decide)]; exact hTh
          have hX := hI.1
          have : um_178 2 = u 2 := hum_178 2 (by decide)
          have : um_178 9 = u 9 := hum_178 9 (by decide)
          refine lv_pop hx hb dL_law_475 rfl ?_
          refine lv_aload_n hx hb dL_law_476 rfl (lv_at hl 2 rfl) ?_
          refine lv_aload_n hx hb dL_law_477 rfl (lv_at hl 0 rfl) ?_
          refine lv_iload hx hb dL_law_478 (lv_at hl 4 rfl) ?_
          refine lv_iconst (v := 1) hx hb dL_law_480 (by decide) ?_
          refine lv_iadd hx hb dL_law_481 ?_
          refine lv_topi (fun x_180 ex_180 => ?_)
          have hx_180 := z_add ex_180 rfl (zk (x := 1) 1 rfl) (by omega) (by omega)
          refine va_sld hx hb hXs hbl hbA hS (z_in rfl (by omega) (by omega)) dL_law_482 ?_
          refine lq_top (v := s1) (by rw [hs1]; exact congrArg xs (by rw [z_nat (x := x_180) rfl]; omega)) ?_
          have hFc := tw_free hF hS hA
          refine va_calli (va_runV (As := [.int s1]) (rest := []) ⟨hx, hb, hml, hown, hts⟩ (m_end l dC dI ad av H.size a k tm_178 lm_178 ym_178 gm_178 v s1 hJ hW) (cwV 1 hts (gi_4 (im_law _ (List.mem_of_getElem? (i := 35) rfl)) (im_law _ (List.mem_of_getElem? (i := 36) rfl)) (im_law _ (List.mem_of_getElem? (i := 37) rfl)) (im_law _ (List.mem_of_getElem? (i := 7) rfl)) im_m_end gd_m_end) rfl rfl rfl (by decide +kernel) ⟨Nat.le_of_ble_eq_true rfl, Nat.le_of_ble_eq_true rfl⟩) ⟨pw_blind, tw_recv hK hT (fx_50 hX) (by decide) cl_e60 rfl, pw_use hT hK hFc hS hM⟩ rfl rfl hl.1 rfl (lv_room (Nat.le_of_ble_eq_true rfl)) dL_law_483 ⟨by show 200 + 4 * q + 0 + 0 ≤ 601024; omega, by show 60000 + 100 * q + 0 + 0 ≤ 7293034; omega⟩) hS (fun q _ h => hFc q h) hFc (fun r0 r_181 t H locs ht hvm hw hB hz1 hk1 hS => ?_)
          clear hvm hz1 hk1
          subst hw
          have hIo := hI
          rcases hB with ⟨um_182, ym_182, gm_182, hre, hum_182, hgm_182, hggm_182, hJ, hT⟩ | ⟨um_183, ym_183, gm_183, hre, hum_183, hgm_183, hggm_183, hJ, hT⟩
          · refine lq_top (v := 1) hre ?_
            rw [ht] at hT
            have hFo := hFo.m hIo hgm_182 (by decide) (hggm_182 (a 10) (by rw [fx_10 hX]; decide))
            have hI := hI.ag hgm_182 (by decide)
            have hI := hI.agg hggm_182
            have hW : IW (um_182 1) (um_182 2) (um_182 9) (ym_182 (a 89)) := by rw [hgm_182.at (fx_89 hX) (by decide)]; exact iw_u hW (hum_182 1 (by decide)) (hum_182 2 (by decide)) (hum_182 9 (by decide))
            have hTh : vb 38408 0 4800 (ym_182 (a 99)) := by rw [hgm_182.at (fx_99 hX) (by decide)]; exact hTh
            have : um_182 2 = v 2 := hum_182 2 (by decide)
            have : um_182 9 = v 9 := hum_182 9 (by decide)
            have : um_182 3 = v 3 := hum_182 3 (by decide)
            have : um_182 10 = v 10 := hum_182 10 (by decide)
            refine lv_pop hx hb dL_law_486 rfl ?_
            refine lv_goto (tgt := 1360) hx hb dL_law_487 (by decide) ?_
            obtain ⟨x_184, ex_184⟩ : ∃ y : Int32, y = i4 + Int32.ofInt 10 := ⟨_, rfl⟩
            have hx_184 := z_add ex_184 rfl (zk (x := Int32.ofInt 10) 10 rfl) (by omega) (by omega)
            refine lv_iinc (v := x_184) (lv' := [(4, .int x_184), (0, .ref b), (1, .ref (a 0)), (2, .ref (a 50)), (3, .ref (a 49))]) hx hb dL_law_1360 hl (k := 4) rfl ex_184.symm (by decide) rfl (fun ls hl => ?_)
            refine lv_goto (tgt := 23) hx hb dL_law_1363 (by decide) ?_
            refine W.widen (k := 200 + 4 * (q + 1)) (n := 60000 + 100 * (q + 1)) (by omega) (by omega) ?_
            exact ih (q + 1) x_184 tm_178 lm_178 ym_182 gm_182 um_178 um_182 H _ ls (by omega) hF hI hJ hW hTh hFo (by omega) (by omega) (by omega) (by omega) (by omega) hT hS (lv_sub hl [1, 2, 3, 4, 0] rfl)
          · refine lq_top (v := 0) hre ?_
            rw [ht] at hT
            have hFo := hFo.m hIo hgm_183 (by decide) (hggm_183 (a 10) (by rw [fx_10 hX]; decide))
            have hI := hI.ag hgm_183 (by decide)
            have hI := hI.agg hggm_183
            have hW : IW (um_183 1) (um_183 2) (um_183 9) (ym_183 (a 89)) := by rw [hgm_183.at (fx_89 hX) (by decide)]; exact iw_u hW (hum_183 1 (by decide)) (hum_183 2 (by decide)) (hum_183 9 (by decide))
            have hTh : vb 38408 0 4800 (ym_183 (a 99)) := by rw [hgm_183.at (fx_99 hX) (by decide)]; exact hTh
            have : um_183 2 = v 2 := hum_183 2 (by decide)
            have : um_183 9 = v 9 := hum_183 9 (by decide)
            have : um_183 3 = v 3 := hum_183 3 (by decide)
            have : um_183 10 = v 10 := hum_183 10 (by decide)
            refine lv_pop hx hb dL_law_486 rfl ?_
            refine lv_goto (tgt := 1360) hx hb dL_law_487 (by decide) ?_
            obtain ⟨x_185, ex_185⟩ : ∃ y : Int32, y = i4 + Int32.ofInt 10 := ⟨_, rfl⟩
            have hx_185 := z_add ex_185 rfl (zk (x := Int32.ofInt 10) 10 rfl) (by omega) (by omega)
            refine lv_iinc (v := x_185) (lv' := [(4, .int x_185), (0, .ref b), (1, .ref (a 0)), (2, .ref (a 50)), (3, .ref (a 49))]) hx hb dL_law_1360 hl (k := 4) rfl ex_185.symm (by decide) rfl (fun ls hl => ?_)
            refine lv_goto (tgt := 23) hx hb dL_law_1363 (by decide) ?_
            refine W.widen (k := 200 + 4 * (q + 1)) (n := 60000 + 100 * (q + 1)) (by omega) (by omega) ?_
            exact ih (q + 1) x_185 tm_178 lm_178 ym_183 gm_183 um_178 um_183 H _ ls (by omega) hF hI hJ hW hTh hFo (by omega) (by omega) (by omega) (by omega) (by omega) hT hS (lv_sub hl [1, 2, 3, 4, 0] rfl)
        · refine lq_top (v := 0) hre ?_
          rw [ht] at hT
          have hF : ∀ q, tm_179 q ≠ 0 → s.heap.size ≤ q := fun q h => hFc q (hMo.2 q h)
          have hFo := hFo.kp hIo hKM (hum_179 1 (by decide)) (hum_179 2 (by decide)) (hum_179 9 (by decide))
          have hKM := hKM.to0
          have hJ := hJ.kp hKM hI.1
          have hW : IW (v 1) (v 2) (v 9) (ym_179 (a 89)) := by rw [hKM.fx hX (j := 89) (by decide) (by decide)]; exact hW
          have hTh : vb 38408 0 4800 (ym_179 (a 99)) := by rw [hKM.fx hX (j := 99) (by decide) (by decide)]; exact hTh
          have hX := hI.1
          have : um_179 2 = u 2 := hum_179 2 (by decide)
          have : um_179 9 = u 9 := hum_179 9 (by decide)
          refine lv_pop hx hb dL_law_475 rfl ?_
          refine lv_aload_n hx hb dL_law_476 rfl (lv_at hl 2 rfl) ?_
          refine lv_aload_n hx hb dL_law_477 rfl (lv_at hl 0 rfl) ?_
          refine lv_iload hx hb dL_law_478 (lv_at hl 4 rfl) ?_
          refine lv_iconst (v := 1) hx hb dL_law_480 (by decide) ?_
          refine lv_iadd hx hb dL_law_481 ?_
          refine lv_topi (fun x_186 ex_186 => ?_)
          have hx_186 := z_add ex_186 rfl (zk (x := 1) 1 rfl) (by omega) (by omega)
          refine va_sld hx hb hXs hbl hbA hS (z_in rfl (by omega) (by omega)) dL_law_482 ?_
          refine lq_top (v := s1) (by rw [hs1]; exact congrArg xs (by rw [z_nat (x := x_186) rfl]; omega)) ?_
          have hFc := tw_free hF hS hA
          refine va_calli (va_runV (As := [.int s1]) (rest := []) ⟨hx, hb, hml, hown, hts⟩ (m_end l dC dI ad av H.size a k tm_179 lm_179 ym_179 gm_179 v s1 hJ hW) (cwV 1 hts (gi_4 (im_law _ (List.mem_of_getElem? (i := 35) rfl)) (im_law _ (List.mem_of_getElem? (i := 36) rfl)) (im_law _ (List.mem_of_getElem? (i := 37) rfl)) (im_law _ (List.mem_of_getElem? (i := 7) rfl)) im_m_end gd_m_end) rfl rfl rfl (by decide +kernel) ⟨Nat.le_of_ble_eq_true rfl, Nat.le_of_ble_eq_true rfl⟩) ⟨pw_blind, tw_recv hK hT (fx_50 hX) (by decide) cl_e60 rfl, pw_use hT hK hFc hS hM⟩ rfl rfl hl.1 rfl (lv_room (Nat.le_of_ble_eq_true rfl)) dL_law_483 ⟨by show 200 + 4 * q + 0 + 0 ≤ 601024; omega, by show 60000 + 100 * q + 0 + 0 ≤ 7293034; omega⟩) hS (fun q _ h => hFc q h) hFc (fun r0 r_187 t H locs ht hvm hw hB hz1 hk1 hS => ?_)
          clear hvm hz1 hk1
          subst hw
          have hIo := hI
          rcases hB with ⟨um_188, ym_188, gm_188, hre, hum_188, hgm_188, hggm_188, hJ, hT⟩ | ⟨um_189, ym_189, gm_189, hre, hum_189, hgm_189, hggm_189, hJ, hT⟩
          · refine lq_top (v := 1) hre ?_
            rw [ht] at hT
            have hFo := hFo.m hIo hgm_188 (by decide) (hggm_188 (a 10) (by rw [fx_10 hX]; decide))
            have hI := hI.ag hgm_188 (by decide)
            have hI := hI.agg hggm_188
            have hW : IW (um_188 1) (um_188 2) (um_188 9) (ym_188 (a 89)) := by rw [hgm_188.at (fx_89 hX) (by decide)]; exact iw_u hW (hum_188 1 (by decide)) (hum_188 2 (by decide)) (hum_188 9 (by decide))
            have hTh : vb 38408 0 4800 (ym_188 (a 99)) := by rw [hgm_188.at (fx_99 hX) (by decide)]; exact hTh
            have : um_188 2 = v 2 := hum_188 2 (by decide)
            have : um_188 9 = v 9 := hum_188 9 (by decide)
            have : um_188 3 = v 3 := hum_188 3 (by decide)
            have : um_188 10 = v 10 := hum_188 10 (by decide)
            refine lv_pop hx hb dL_law_486 rfl ?_
            refine lv_goto (tgt := 1360) hx hb dL_law_487 (by decide) ?_
            obtain ⟨x_190, ex_190⟩ : ∃ y : Int32, y = i4 + Int32.ofInt 10 := ⟨_, rfl⟩
            have hx_190 := z_add ex_190 rfl (zk (x := Int32.ofInt 10) 10 rfl) (by omega) (by omega)
            refine lv_iinc (v := x_190) (lv' := [(4, .int x_190), (0, .ref b), (1, .ref (a 0)), (2, .ref (a 50)), (3, .ref (a 49))]) hx hb dL_law_1360 hl (k := 4) rfl ex_190.symm (by decide) rfl (fun ls hl => ?_)
            refine lv_goto (tgt := 23) hx hb dL_law_1363 (by decide) ?_
            refine W.widen (k := 200 + 4 * (q + 1)) (n := 60000 + 100 * (q + 1)) (by omega) (by omega) ?_
            exact ih (q + 1) x_190 tm_179 lm_179 ym_188 gm_188 um_179 um_188 H _ ls (by omega) hF hI hJ hW hTh hFo (by omega) (by omega) (by omega) (by omega) (by omega) hT hS (lv_sub hl [1, 2, 3, 4, 0] rfl)
          · refine lq_top (v := 0) hre ?_
            rw [ht] at hT
            have hFo := hFo.m hIo hgm_189 (by decide) (hggm_189 (a 10) (by rw [fx_10 hX]; decide))
            have hI := hI.ag hgm_189 (by decide)
            have hI := hI.agg hggm_189
            have hW : IW (um_189 1) (um_189 2) (um_189 9) (ym_189 (a 89)) := by rw [hgm_189.at (fx_89 hX) (by decide)]; exact iw_u hW (hum_189 1 (by decide)) (hum_189 2 (by decide)) (hum_189 9 (by decide))
            have hTh : vb 38408 0 4800 (ym_189 (a 99)) := by rw [hgm_189.at (fx_99 hX) (by decide)]; exact hTh
            have : um_189 2 = v 2 := hum_189 2 (by decide)
            have : um_189 9 = v 9 := hum_189 9 (by decide)
            have : um_189 3 = v 3 := hum_189 3 (by decide)
            have : um_189 10 = v 10 := hum_189 10 (by decide)
            refine lv_pop hx hb dL_law_486 rfl ?_
            refine lv_goto (tgt := 1360) hx hb dL_law_487 (by decide) ?_
            obtain ⟨x_191, ex_191⟩ : ∃ y : Int32, y = i4 + Int32.ofInt 10 := ⟨_, rfl⟩
            have hx_191 := z_add ex_191 rfl (zk (x := Int32.ofInt 10) 10 rfl) (by omega) (by omega)
            refine lv_iinc (v := x_191) (lv' := [(4, .int x_191), (0, .ref b), (1, .ref (a 0)), (2, .ref (a 50)), (3, .ref (a 49))]) hx hb dL_law_1360 hl (k := 4) rfl ex_191.symm (by decide) rfl (fun ls hl => ?_)
            refine lv_goto (tgt := 23) hx hb dL_law_1363 (by decide) ?_
            refine W.widen (k := 200 + 4 * (q + 1)) (n := 60000 + 100 * (q + 1)) (by omega) (by omega) ?_
            exact ih (q + 1) x_191 tm_179 lm_179 ym_189 gm_189 um_179 um_189 H _ ls (by omega) hF hI hJ hW hTh hFo (by omega) (by omega) (by omega) (by omega) (by omega) hT hS (lv_sub hl [1, 2, 3, 4, 0] rfl)
      · refine lq_top (v := 6) t_5 ?_
        have nt_5 := z_eq rfl (zk (x := 6) 6 rfl) t_5
        refine lv_tableIn (tgt := 490) hx hb dL_law_40 (by decide) (by decide) (off := 450) (by decide) (by decide) ?_
        refine lv_aload_n hx hb dL_law_490 rfl (lv_at hl 1 rfl) ?_
        refine lv_aload_n hx hb dL_law_491 rfl (lv_at hl 0 rfl) ?_
        refine lv_iload hx hb dL_law_492 (lv_at hl 4 rfl) ?_
        refine lv_iconst (v := 1) hx hb dL_law_494 (by decide) ?_
        refine lv_iadd hx hb dL_law_495 ?_
        refine lv_topi (fun x_192 ex_192 => ?_)
        have hx_192 := z_add ex_192 rfl (zk (x := 1) 1 rfl) (by omega) (by omega)
        refine va_sld hx hb hXs hbl hbA hS (z_in rfl (by omega) (by omega)) dL_law_496 ?_
        refine lq_top (v := s1) (by rw [hs1]; exact congrArg xs (by rw [z_nat (x := x_192) rfl]; omega)) ?_
        refine lv_aload_n hx hb dL_law_497 rfl (lv_at hl 0 rfl) ?_
        refine lv_iload hx hb dL_law_498 (lv_at hl 4 rfl) ?_
        refine lv_iconst (v := 2) hx hb dL_law_500 (by decide) ?_
        refine lv_iadd hx hb dL_law_501 ?_
        refine lv_topi (fun x_193 ex_193 => ?_)
        have hx_193 := z_add ex_193 rfl (zk (x := 2) 2 rfl) (by omega) (by omega)
        refine va_sld hx hb hXs hbl hbA hS (z_in rfl (by omega) (by omega)) dL_law_502 ?_
        refine lq_top (v := s2) (by rw [hs2]; exact congrArg xs (by rw [z_nat (x := x_193) rfl]; omega)) ?_
        have hFc := tw_free hF hS hA
        refine va_calli (va_runV (As := [.int s1, .int s2]) (rest := []) ⟨hx, hb, hml, hown, hts⟩ (c_rule l dC dI ad av H.size a k τ ln y g u s1 s2 hI ) (cwV 2 hts (gi_4 (im_law _ (List.mem_of_getElem? (i := 38) rfl)) (im_law _ (List.mem_of_getElem? (i := 39) rfl)) (im_law _ (List.mem_of_getElem? (i := 40) rfl)) (im_law _ (List.mem_of_getElem? (i := 3) rfl)) im_c_rule gd_c_rule) rfl rfl rfl (by decide +kernel) ⟨Nat.le_of_ble_eq_true rfl, Nat.le_of_ble_eq_true rfl⟩) ⟨pw_blind, tw_recv hK hT (fx_0 hX) (by decide) cl_e10 rfl, pw_use hT hK hFc hS hM⟩ rfl rfl hl.1 rfl (lv_room (Nat.le_of_ble_eq_true rfl)) dL_law_503 ⟨by show 200 + 4 * q + 2 ≤ 601024; omega, by show 60000 + 100 * q + 63 ≤ 7293034; omega⟩) hS (fun q _ h => hFc q h) hFc (fun r0 r_194 t H locs ht hvm hw hB hz1 hk1 hS => ?_)
        clear hvm hz1 hk1
        subst hw
        have hIo := hI
        obtain ⟨um_195, hum_195, ⟨tm_195, lm_195, ym_195, gm_195, hMo, hKM, hI, hT⟩⟩ := hB
        rw [ht] at hT
        have hF : ∀ q, tm_195 q ≠ 0 → s.heap.size ≤ q := fun q h => hFc q (hMo.2 q h)
        have hFo := hFo.kp hIo hKM (hum_195 1 (by decide)) (hum_195 2 (by decide)) (hum_195 9 (by decide))
        have hKM := hKM.to0
        have hJ := hJ.kp hKM hI.1
        have hW : IW (v 1) (v 2) (v 9) (ym_195 (a 89)) := by rw [hKM.fx hX (j := 89) (by decide) (by decide)]; exact hW
        have hTh : vb 38408 0 4800 (ym_195 (a 99)) := by rw [hKM.fx hX (j := 99) (by decide) (by decide)]; exact hTh
        have hX := hI.1
        have : um_195 2 = u 2 := hum_195 2 (by decide)
        have : um_195 9 = u 9 := hum_195 9 (by decide)
        refine lv_pop hx hb dL_law_506 rfl ?_
        refine lv_aload_n hx hb dL_law_507 rfl (lv_at hl 2 rfl) ?_
        refine lv_aload_n hx hb dL_law_508 rfl (lv_at hl 0 rfl) ?_
        refine lv_iload hx hb dL_law_509 (lv_at hl 4 rfl) ?_
        refine lv_iconst (v := 1) hx hb dL_law_511 (by decide) ?_
        refine lv_iadd hx hb dL_law_512 ?_
        refine lv_topi (fun x_196 ex_196 => ?_)
        have hx_196 := z_add ex_196 rfl (zk (x := 1) 1 rfl) (by omega) (by omega)
        refine va_sld hx hb hXs hbl hbA hS (z_in rfl (by omega) (by omega)) dL_law_513 ?_
        refine lq_top (v := s1) (by rw [hs1]; exact congrArg xs (by rw [z_nat (x := x_196) rfl]; omega)) ?_
        refine lv_aload_n hx hb dL_law_514 rfl (lv_at hl 0 rfl) ?_
        refine lv_iload hx hb dL_law_515 (lv_at hl 4 rfl) ?_
        refine lv_iconst (v := 2) hx hb dL_law_517 (by decide) ?_
        refine lv_iadd hx hb dL_law_518 ?_
        refine lv_topi (fun x_197 ex_197 => ?_)
        have hx_197 := z_add ex_197 rfl (zk (x := 2) 2 rfl) (by omega) (by omega)
        refine va_sld hx hb hXs hbl hbA hS (z_in rfl (by omega) (by omega)) dL_law_519 ?_
        refine lq_top (v := s2) (by rw [hs2]; exact congrArg xs (by rw [z_nat (x := x_197) rfl]; omega)) ?_
        have hFc := tw_free hF hS hA
        refine va_calli (va_runV (As := [.int s1, .int s2]) (rest := []) ⟨hx, hb, hml, hown, hts⟩ (m_rule l dC dI ad av H.size a k tm_195 lm_195 ym_195 gm_195 v s1 s2 hJ hW) (cwV 2 hts (gi_4 (im_law _ (List.mem_of_getElem? (i := 41) rfl)) (im_law _ (List.mem_of_getElem? (i := 42) rfl)) (im_law _ (List.mem_of_getElem? (i := 43) rfl)) (im_law _ (List.mem_of_getElem? (i := 7) rfl)) im_m_rule gd_m_rule) rfl rfl rfl (by decide +kernel) ⟨Nat.le_of_ble_eq_true rfl, Nat.le_of_ble_eq_true rfl⟩) ⟨pw_blind, tw_recv hK hT (fx_50 hX) (by decide) cl_e60 rfl, pw_use hT hK hFc hS hM⟩ rfl rfl hl.1 rfl (lv_room (Nat.le_of_ble_eq_true rfl)) dL_law_520 ⟨by show 200 + 4 * q + 2 + 0 ≤ 601024; omega, by show 60000 + 100 * q + 63 + 0 ≤ 7293034; omega⟩) hS (fun q _ h => hFc q h) hFc (fun r0 r_198 t H locs ht hvm hw hB hz1 hk1 hS => ?_)
        clear hvm hz1 hk1
        subst hw
        have hIo := hI
        obtain ⟨um_199, ym_199, gm_199, hum_199, hgm_199, hggm_199, hJ, hT⟩ := hB
        rw [ht] at hT
        have hFo := hFo.m hIo hgm_199 (by decide) (hggm_199 (a 10) (by rw [fx_10 hX]; decide))
        have hI := hI.ag hgm_199 (by decide)
        have hI := hI.agg hggm_199
        have hW : IW (um_199 1) (um_199 2) (um_199 9) (ym_199 (a 89)) := by rw [hgm_199.at (fx_89 hX) (by decide)]; exact iw_u hW (hum_199 1 (by decide)) (hum_199 2 (by decide)) (hum_199 9 (by decide))
        have hTh : vb 38408 0 4800 (ym_199 (a 99)) := by rw [hgm_199.at (fx_99 hX) (by decide)]; exact hTh
        have : um_199 2 = v 2 := hum_199 2 (by decide)
        have : um_199 9 = v 9 := hum_199 9 (by decide)
        have : um_199 3 = v 3 := hum_199 3 (by decide)
        have : um_199 10 = v 10 := hum_199 10 (by decide)
        refine lv_pop hx hb dL_law_523 rfl ?_
        refine lv_goto (tgt := 1360) hx hb dL_law_524 (by decide) ?_
        obtain ⟨x_200, ex_200⟩ : ∃ y : Int32, y = i4 + Int32.ofInt 10 := ⟨_, rfl⟩
        have hx_200 := z_add ex_200 rfl (zk (x := Int32.ofInt 10) 10 rfl) (by omega) (by omega)
        refine lv_iinc (v := x_200) (lv' := [(4, .int x_200), (0, .ref b), (1, .ref (a 0)), (2, .ref (a 50)), (3, .ref (a 49))]) hx hb dL_law_1360 hl (k := 4) rfl ex_200.symm (by decide) rfl (fun ls hl => ?_)
        refine lv_goto (tgt := 23) hx hb dL_law_1363 (by decide) ?_
        refine W.widen (k := 200 + 4 * (q + 1)) (n := 60000 + 100 * (q + 1)) (by omega) (by omega) ?_
        exact ih (q + 1) x_200 tm_195 lm_195 ym_199 gm_199 um_195 um_199 H _ ls (by omega) hF hI hJ hW hTh hFo (by omega) (by omega) (by omega) (by omega) (by omega) hT hS (lv_sub hl [1, 2, 3, 4, 0] rfl)
      · refine lq_top (v := 7) t_5 ?_
        have nt_5 := z_eq rfl (zk (x := 7) 7 rfl) t_5
        refine lv_tableIn (tgt := 527) hx hb dL_law_40 (by decide) (by decide) (off := 487) (by decide) (by decide) ?_
        refine lv_aload_n hx hb dL_law_527 rfl (lv_at hl 1 rfl) ?_
        refine lv_aload_n hx hb dL_law_528 rfl (lv_at hl 0 rfl) ?_
        refine lv_iload hx hb dL_law_529 (lv_at hl 4 rfl) ?_
        refine lv_iconst (v := 1) hx hb dL_law_531 (by decide) ?_
        refine lv_iadd hx hb dL_law_532 ?_
        refine lv_topi (fun x_201 ex_201 => ?_)
        have hx_201 := z_add ex_201 rfl (zk (x := 1) 1 rfl) (by omega) (by omega)
        refine va_sld hx hb hXs hbl hbA hS (z_in rfl (by omega) (by omega)) dL_law_533 ?_
        refine lq_top (v := s1) (by rw [hs1]; exact congrArg xs (by rw [z_nat (x := x_201) rfl]; omega)) ?_
        have hFc := tw_free hF hS hA
        refine va_calli (va_runV (As := [.int s1]) (rest := []) ⟨hx, hb, hml, hown, hts⟩ (c_stepF l dC dI ad av H.size a k τ ln y g u s1 hI hFo) (cwV 1 hts (gi_4 (im_law _ (List.mem_of_getElem? (i := 44) rfl)) (im_law _ (List.mem_of_getElem? (i := 45) rfl)) (im_law _ (List.mem_of_getElem? (i := 46) rfl)) (im_law _ (List.mem_of_getElem? (i := 3) rfl)) im_c_stepF gd_c_stepF) rfl rfl rfl (by decide +kernel) ⟨Nat.le_of_ble_eq_true rfl, Nat.le_of_ble_eq_true rfl⟩) ⟨pw_blind, tw_recv hK hT (fx_0 hX) (by decide) cl_e10 rfl, pw_use hT hK hFc hS hM⟩ rfl rfl hl.1 rfl (lv_room (Nat.le_of_ble_eq_true rfl)) dL_law_534 ⟨by show 200 + 4 * q + 0 ≤ 601024; omega, by show 60000 + 100 * q + 0 ≤ 7293034; omega⟩) hS (fun q _ h => hFc q h) hFc (fun r0 r_202 t H locs ht hvm hw hB hz1 hk1 hS => ?_)
        clear hvm hz1 hk1
        subst hw
        have hIo := hI
        rcases hB with ⟨um_203, hre, hum_203, hf_204, ⟨tm_203, lm_203, ym_203, gm_203, hMo, hKM, hI, hFo, hT⟩⟩ | ⟨um_205, hum_205, hf_206, hf_207, hf_208, ⟨tm_205, lm_205, ym_205, gm_205, hMo, hKM, hI, hFo, hT⟩⟩
        · refine lq_top (v := (-1)) hre ?_
          rw [ht] at hT
          have hF : ∀ q, tm_203 q ≠ 0 → s.heap.size ≤ q := fun q h => hFc q (hMo.2 q h)
          have hJ := hJ.kp hKM hI.1
          have hW : IW (v 1) (v 2) (v 9) (ym_203 (a 89)) := by rw [hKM.fx hX (j := 89) (by decide) (by decide)]; exact hW
          have hTh : vb 38408 0 4800 (ym_203 (a 99)) := by rw [hKM.fx hX (j := 99) (by decide) (by decide)]; exact hTh
          have hX := hI.1
          have : um_203 2 = u 2 := hum_203 2 (by decide)
          have : um_203 9 = u 9 := hum_203 9 (by decide)
          refine lv_pop hx hb dL_law_537 rfl ?_
          refine lv_aload_n hx hb dL_law_538 rfl (lv_at hl 2 rfl) ?_
          refine lv_aload_n hx hb dL_law_539 rfl (lv_at hl 0 rfl) ?_
          refine lv_iload hx hb dL_law_540 (lv_at hl 4 rfl) ?_
          refine lv_iconst (v := 1) hx hb dL_law_542 (by decide) ?_
          refine lv_iadd hx hb dL_law_543 ?_
          refine lv_topi (fun x_209 ex_209 => ?_)
          have hx_209 := z_add ex_209 rfl (zk (x := 1) 1 rfl) (by omega) (by omega)
          refine va_sld hx hb hXs hbl hbA hS (z_in rfl (by omega) (by omega)) dL_law_544 ?_
          refine lq_top (v := s1) (by rw [hs1]; exact congrArg xs (by rw [z_nat (x := x_209) rfl]; omega)) ?_
          have hFc := tw_free hF hS hA
          refine va_calli (va_runV (As := [.int s1]) (rest := []) ⟨hx, hb, hml, hown, hts⟩ (m_step l dC dI ad av H.size a k tm_203 lm_203 ym_203 gm_203 v s1 hJ hW) (cwV 1 hts (gi_4 (im_law _ (List.mem_of_getElem? (i := 47) rfl)) (im_law _ (List.mem_of_getElem? (i := 48) rfl)) (im_law _ (List.mem_of_getElem? (i := 49) rfl)) (im_law _ (List.mem_of_getElem? (i := 7) rfl)) im_m_step gd_m_step) rfl rfl rfl (by decide +kernel) ⟨Nat.le_of_ble_eq_true rfl, Nat.le_of_ble_eq_true rfl⟩) ⟨pw_blind, tw_recv hK hT (fx_50 hX) (by decide) cl_e60 rfl, pw_use hT hK hFc hS hM⟩ rfl rfl hl.1 rfl (lv_room (Nat.le_of_ble_eq_true rfl)) dL_law_545 ⟨by show 200 + 4 * q + 0 + 0 ≤ 601024; omega, by show 60000 + 100 * q + 0 + 0 ≤ 7293034; omega⟩) hS (fun q _ h => hFc q h) hFc (fun r0 r_210 t H locs ht hvm hw hB hz1 hk1 hS => ?_)
          clear hvm hz1 hk1
          subst hw
          have hIo := hI
          rcases hB with ⟨um_211, ym_211, gm_211, hre, hum_211, hgm_211, hggm_211, hJ, hW, hf_212, hf_213, hT⟩ | ⟨um_214, ym_214, gm_214, hum_214, hgm_214, hggm_214, hJ, hW, hf_215, hf_216, hf_217, hT⟩
          · refine lq_top (v := (-1)) hre ?_
            rw [ht] at hT
            have hFo := hFo.m hIo hgm_211 (by decide) (hggm_211 (a 10) (by rw [fx_10 hX]; decide))
            have hI := hI.ag hgm_211 (by decide)
            have hI := hI.agg hggm_211
            have hTh : vb 38408 0 4800 (ym_211 (a 99)) := by rw [hgm_211.at (fx_99 hX) (by decide)]; exact hTh
            have : um_211 2 = v 2 := hum_211 2 (by decide)
            have : um_211 3 = v 3 := hum_211 3 (by decide)
            have : um_211 10 = v 10 := hum_211 10 (by decide)
            refine lv_pop hx hb dL_law_548 rfl ?_
            refine lv_goto (tgt := 1360) hx hb dL_law_549 (by decide) ?_
            obtain ⟨x_218, ex_218⟩ : ∃ y : Int32, y = i4 + Int32.ofInt 10 := ⟨_, rfl⟩
            have hx_218 := z_add ex_218 rfl (zk (x := Int32.ofInt 10) 10 rfl) (by omega) (by omega)
            refine lv_iinc (v := x_218) (lv' := [(4, .int x_218), (0, .ref b), (1, .ref (a 0)), (2, .ref (a 50)), (3, .ref (a 49))]) hx hb dL_law_1360 hl (k := 4) rfl ex_218.symm (by decide) rfl (fun ls hl => ?_)
            refine lv_goto (tgt := 23) hx hb dL_law_1363 (by decide) ?_
            refine W.widen (k := 200 + 4 * (q + 1)) (n := 60000 + 100 * (q + 1)) (by omega) (by omega) ?_
            exact ih (q + 1) x_218 tm_203 lm_203 ym_211 gm_211 um_203 um_211 H _ ls (by omega) hF hI hJ hW hTh hFo (by omega) (by omega) (by omega) (by omega) (by omega) hT hS (lv_sub hl [1, 2, 3, 4, 0] rfl)
          · rw [ht] at hT
            have hFo := hFo.m hIo hgm_214 (by decide) (hggm_214 (a 10) (by rw [fx_10 hX]; decide))
            have hI := hI.ag hgm_214 (by decide)
            have hI := hI.agg hggm_214
            have hTh : vb 38408 0 4800 (ym_214 (a 99)) := by rw [hgm_214.at (fx_99 hX) (by decide)]; exact hTh
            have : um_214 2 = v 2 := hum_214 2 (by decide)
            have : um_214 3 = v 3 := hum_214 3 (by decide)
            have : um_214 10 = v 10 := hum_214 10 (by decide)
            refine lv_pop hx hb dL_law_548 rfl ?_
            refine lv_goto (tgt := 1360) hx hb dL_law_549 (by decide) ?_
            obtain ⟨x_219, ex_219⟩ : ∃ y : Int32, y = i4 + Int32.ofInt 10 := ⟨_, rfl⟩
            have hx_219 := z_add ex_219 rfl (zk (x := Int32.ofInt 10) 10 rfl) (by omega) (by omega)
            refine lv_iinc (v := x_219) (lv' := [(4, .int x_219), (0, .ref b), (1, .ref (a 0)), (2, .ref (a 50)), (3, .ref (a 49))]) hx hb dL_law_1360 hl (k := 4) rfl ex_219.symm (by decide) rfl (fun ls hl => ?_)
            refine lv_goto (tgt := 23) hx hb dL_law_1363 (by decide) ?_
            refine W.widen (k := 200 + 4 * (q + 1)) (n := 60000 + 100 * (q + 1)) (by omega) (by omega) ?_
            exact ih (q + 1) x_219 tm_203 lm_203 ym_214 gm_214 um_203 um_214 H _ ls (by omega) hF hI hJ hW hTh hFo (by omega) (by omega) (by omega) (by omega) (by omega) hT hS (lv_sub hl [1, 2, 3, 4, 0] rfl)
        · rw [ht] at hT
          have hF : ∀ q, tm_205 q ≠ 0 → s.heap.size ≤ q := fun q h => hFc q (hMo.2 q h)
          have hJ := hJ.kp hKM hI.1
          have hW : IW (v 1) (v 2) (v 9) (ym_205 (a 89)) := by rw [hKM.fx hX (j := 89) (by decide) (by decide)]; exact hW
          have hTh : vb 38408 0 4800 (ym_205 (a 99)) := by rw [hKM.fx hX (j := 99) (by decide) (by decide)]; exact hTh
          have hX := hI.1
          have : um_205 2 = u 2 := hum_205 2 (by decide)
          refine lv_pop hx hb dL_law_537 rfl ?_
          refine lv_aload_n hx hb dL_law_538 rfl (lv_at hl 2 rfl) ?_
          refine lv_aload_n hx hb dL_law_539 rfl (lv_at hl 0 rfl) ?_
          refine lv_iload hx hb dL_law_540 (lv_at hl 4 rfl) ?_
          refine lv_iconst (v := 1) hx hb dL_law_542 (by decide) ?_
          refine lv_iadd hx hb dL_law_543 ?_
          refine lv_topi (fun x_220 ex_220 => ?_)
          have hx_220 := z_add ex_220 rfl (zk (x := 1) 1 rfl) (by omega) (by omega)
          refine va_sld hx hb hXs hbl hbA hS (z_in rfl (by omega) (by omega)) dL_law_544 ?_
          refine lq_top (v := s1) (by rw [hs1]; exact congrArg xs (by rw [z_nat (x := x_220) rfl]; omega)) ?_
          have hFc := tw_free hF hS hA
          refine va_calli (va_runV (As := [.int s1]) (rest := []) ⟨hx, hb, hml, hown, hts⟩ (m_step l dC dI ad av H.size a k tm_205 lm_205 ym_205 gm_205 v s1 hJ hW) (cwV 1 hts (gi_4 (im_law _ (List.mem_of_getElem? (i := 47) rfl)) (im_law _ (List.mem_of_getElem? (i := 48) rfl)) (im_law _ (List.mem_of_getElem? (i := 49) rfl)) (im_law _ (List.mem_of_getElem? (i := 7) rfl)) im_m_step gd_m_step) rfl rfl rfl (by decide +kernel) ⟨Nat.le_of_ble_eq_true rfl, Nat.le_of_ble_eq_true rfl⟩) ⟨pw_blind, tw_recv hK hT (fx_50 hX) (by decide) cl_e60 rfl, pw_use hT hK hFc hS hM⟩ rfl rfl hl.1 rfl (lv_room (Nat.le_of_ble_eq_true rfl)) dL_law_545 ⟨by show 200 + 4 * q + 0 + 0 ≤ 601024; omega, by show 60000 + 100 * q + 0 + 0 ≤ 7293034; omega⟩) hS (fun q _ h => hFc q h) hFc (fun r0 r_221 t H locs ht hvm hw hB hz1 hk1 hS => ?_)
          clear hvm hz1 hk1
          subst hw
          have hIo := hI
          rcases hB with ⟨um_222, ym_222, gm_222, hre, hum_222, hgm_222, hggm_222, hJ, hW, hf_223, hf_224, hT⟩ | ⟨um_225, ym_225, gm_225, hum_225, hgm_225, hggm_225, hJ, hW, hf_226, hf_227, hf_228, hT⟩
          · refine lq_top (v := (-1)) hre ?_
            rw [ht] at hT
            have hFo := hFo.m hIo hgm_222 (by decide) (hggm_222 (a 10) (by rw [fx_10 hX]; decide))
            have hI := hI.ag hgm_222 (by decide)
            have hI := hI.agg hggm_222
            have hTh : vb 38408 0 4800 (ym_222 (a 99)) := by rw [hgm_222.at (fx_99 hX) (by decide)]; exact hTh
            have : um_222 2 = v 2 := hum_222 2 (by decide)
            have : um_222 3 = v 3 := hum_222 3 (by decide)
            have : um_222 10 = v 10 := hum_222 10 (by decide)
            refine lv_pop hx hb dL_law_548 rfl ?_
            refine lv_goto (tgt := 1360) hx hb dL_law_549 (by decide) ?_
            obtain ⟨x_229, ex_229⟩ : ∃ y : Int32, y = i4 + Int32.ofInt 10 := ⟨_, rfl⟩
            have hx_229 := z_add ex_229 rfl (zk (x := Int32.ofInt 10) 10 rfl) (by omega) (by omega)
            refine lv_iinc (v := x_229) (lv' := [(4, .int x_229), (0, .ref b), (1, .ref (a 0)), (2, .ref (a 50)), (3, .ref (a 49))]) hx hb dL_law_1360 hl (k := 4) rfl ex_229.symm (by decide) rfl (fun ls hl => ?_)
            refine lv_goto (tgt := 23) hx hb dL_law_1363 (by decide) ?_
            refine W.widen (k := 200 + 4 * (q + 1)) (n := 60000 + 100 * (q + 1)) (by omega) (by omega) ?_
            exact ih (q + 1) x_229 tm_205 lm_205 ym_222 gm_222 um_205 um_222 H _ ls (by omega) hF hI hJ hW hTh hFo (by omega) (by omega) (by omega) (by omega) (by omega) hT hS (lv_sub hl [1, 2, 3, 4, 0] rfl)
          · rw [ht] at hT
            have hFo := hFo.m hIo hgm_225 (by decide) (hggm_225 (a 10) (by rw [fx_10 hX]; decide))
            have hI := hI.ag hgm_225 (by decide)
            have hI := hI.agg hggm_225
            have hTh : vb 38408 0 4800 (ym_225 (a 99)) := by rw [hgm_225.at (fx_99 hX) (by decide)]; exact hTh
            have : um_225 2 = v 2 := hum_225 2 (by decide)
            have : um_225 3 = v 3 := hum_225 3 (by decide)
            have : um_225 10 = v 10 := hum_225 10 (by decide)
            refine lv_pop hx hb dL_law_548 rfl ?_
            refine lv_goto (tgt := 1360) hx hb dL_law_549 (by decide) ?_
            obtain ⟨x_230, ex_230⟩ : ∃ y : Int32, y = i4 + Int32.ofInt 10 := ⟨_, rfl⟩
            have hx_230 := z_add ex_230 rfl (zk (x := Int32.ofInt 10) 10 rfl) (by omega) (by omega)
            refine lv_iinc (v := x_230) (lv' := [(4, .int x_230), (0, .ref b), (1, .ref (a 0)), (2, .ref (a 50)), (3, .ref (a 49))]) hx hb dL_law_1360 hl (k := 4) rfl ex_230.symm (by decide) rfl (fun ls hl => ?_)
            refine lv_goto (tgt := 23) hx hb dL_law_1363 (by decide) ?_
            refine W.widen (k := 200 + 4 * (q + 1)) (n := 60000 + 100 * (q + 1)) (by omega) (by omega) ?_
            exact ih (q + 1) x_230 tm_205 lm_205 ym_225 gm_225 um_205 um_225 H _ ls (by omega) hF hI hJ hW hTh hFo (by omega) (by omega) (by omega) (by omega) (by omega) hT hS (lv_sub hl [1, 2, 3, 4, 0] rfl)
      · refine lq_top (v := 8) t_5 ?_
        have nt_5 := z_eq rfl (zk (x := 8) 8 rfl) t_5
        refine lv_tableIn (tgt := 552) hx hb dL_law_40 (by decide) (by decide) (off := 512) (by decide) (by decide) ?_
        refine lv_aload_n hx hb dL_law_552 rfl (lv_at hl 1 rfl) ?_
        refine lv_aload_n hx hb dL_law_553 rfl (lv_at hl 0 rfl) ?_
        refine lv_iload hx hb dL_law_554 (lv_at hl 4 rfl) ?_
        refine lv_iconst (v := 1) hx hb dL_law_556 (by decide) ?_
        refine lv_iadd hx hb dL_law_557 ?_
        refine lv_topi (fun x_231 ex_231 => ?_)
        have hx_231 := z_add ex_231 rfl (zk (x := 1) 1 rfl) (by omega) (by omega)
        refine va_sld hx hb hXs hbl hbA hS (z_in rfl (by omega) (by omega)) dL_law_558 ?_
        refine lq_top (v := s1) (by rw [hs1]; exact congrArg xs (by rw [z_nat (x := x_231) rfl]; omega)) ?_
        refine lv_aload_n hx hb dL_law_559 rfl (lv_at hl 0 rfl) ?_
        refine lv_iload hx hb dL_law_560 (lv_at hl 4 rfl) ?_
        refine lv_iconst (v := 2) hx hb dL_law_562 (by decide) ?_
        refine lv_iadd hx hb dL_law_563 ?_
        refine lv_topi (fun x_232 ex_232 => ?_)
        have hx_232 := z_add ex_232 rfl (zk (x := 2) 2 rfl) (by omega) (by omega)
        refine va_sld hx hb hXs hbl hbA hS (z_in rfl (by omega) (by omega)) dL_law_564 ?_
        refine lq_top (v := s2) (by rw [hs2]; exact congrArg xs (by rw [z_nat (x := x_232) rfl]; omega)) ?_
        refine lv_aload_n hx hb dL_law_565 rfl (lv_at hl 3 rfl) ?_
        have hFc := tw_free hF hS hA
        refine va_calli (vx_runSW (As := [.ref (a 0), .int s1, .int s2, .ref (a 49)]) (rest := []) ⟨hx, hb, hml, hown, hts⟩ (k_of l hst dC dI ad av H.size a k τ ln y g u s1 s2 hI ) (vx_cwSW 4 hts (gi_3 (im_law _ (List.mem_of_getElem? (i := 50) rfl)) (im_law _ (List.mem_of_getElem? (i := 51) rfl)) (im_law _ (List.mem_of_getElem? (i := 52) rfl)) im_k_of gd_k_of) rfl rfl rfl (by decide +kernel) ⟨Nat.le_of_ble_eq_true rfl, Nat.le_of_ble_eq_true rfl⟩) ⟨pw_blind, pw_use hT hK hFc hS hM⟩ rfl rfl hl.1 rfl (lv_room (Nat.le_of_ble_eq_true rfl)) dL_law_566 ⟨by show 200 + 4 * q + 1 ≤ 601024; omega, by show 60000 + 100 * q + 6 ≤ 7293034; omega⟩) hS (fun q _ h => hFc q h) hFc (fun r0 r_233 t H locs ht hvm hw hB hz1 hk1 hS => ?_)
        clear hvm hz1 hk1
        subst hw
        have hIo := hI
        obtain ⟨um_234, hum_234, ⟨tm_234, lm_234, ym_234, gm_234, hMo, hKM, hI, hT⟩⟩ := hB
        rw [ht] at hT
        have hF : ∀ q, tm_234 q ≠ 0 → s.heap.size ≤ q := fun q h => hFc q (hMo.2 q h)
        have hFo := hFo.kp hIo hKM (hum_234 1 (by decide)) (hum_234 2 (by decide)) (hum_234 9 (by decide))
        have hKM := hKM.to0
        have hJ := hJ.kp hKM hI.1
        have hW : IW (v 1) (v 2) (v 9) (ym_234 (a 89)) := by rw [hKM.fx hX (j := 89) (by decide) (by decide)]; exact hW
        have hTh : vb 38408 0 4800 (ym_234 (a 99)) := by rw [hKM.fx hX (j := 99) (by decide) (by decide)]; exact hTh
        have hX := hI.1
        have : um_234 2 = u 2 := hum_234 2 (by decide)
        have : um_234 9 = u 9 := hum_234 9 (by decide)
        refine lv_istore (lv' := [(5, .int r_233), (0, .ref b), (1, .ref (a 0)), (2, .ref (a 50)), (3, .ref (a 49)), (4, .int i4)]) hx hb dL_law_569 hl (by decide) rfl (fun ls hl => ?_)
        refine lv_aload_n hx hb dL_law_571 rfl (lv_at hl 3 rfl) ?_
        refine lv_aload_n hx hb dL_law_572 rfl (lv_at hl 1 rfl) ?_
        refine lv_iload hx hb dL_law_573 (lv_at hl 5 rfl) ?_
        refine lv_iconst (v := 1) hx hb dL_law_575 (by decide) ?_
        refine lv_iadd hx hb dL_law_576 ?_
        refine lv_topi (fun x_235 ex_235 => ?_)
        have hx_235 := z_add ex_235 rfl (zk (x := 1) 1 rfl) (by omega) (by omega)
        refine va_sld hx hb hXs hbl hbA hS (z_in rfl (by omega) (by omega)) dL_law_577 ?_
        refine lq_top (v := s1) (by rw [hs1]; exact congrArg xs (by rw [z_nat (x := x_235) rfl]; omega)) ?_
        refine lv_aload_n hx hb dL_law_578 rfl (lv_at hl 1 rfl) ?_
        refine lv_iload hx hb dL_law_579 (lv_at hl 5 rfl) ?_
        refine lv_iconst (v := 2) hx hb dL_law_581 (by decide) ?_
        refine lv_iadd hx hb dL_law_582 ?_
        refine lv_topi (fun x_236 ex_236 => ?_)
        have hx_236 := z_add ex_236 rfl (zk (x := 2) 2 rfl) (by omega) (by omega)
        refine va_sld hx hb hXs hbl hbA hS (z_in rfl (by omega) (by omega)) dL_law_583 ?_
        refine lq_top (v := s2) (by rw [hs2]; exact congrArg xs (by rw [z_nat (x := x_236) rfl]; omega)) ?_
        have hFc := tw_free hF hS hA
        refine va_calli (va_runV (As := [.int s1, .int s2]) (rest := []) ⟨hx, hb, hml, hown, hts⟩ (m_of l dC dI ad av H.size a k tm_234 lm_234 ym_234 gm_234 v s1 s2 hJ hW) (cwV 2 hts (gi_4 (im_law _ (List.mem_of_getElem? (i := 53) rfl)) (im_law _ (List.mem_of_getElem? (i := 54) rfl)) (im_law _ (List.mem_of_getElem? (i := 55) rfl)) (im_law _ (List.mem_of_getElem? (i := 7) rfl)) im_m_of gd_m_of) rfl rfl rfl (by decide +kernel) ⟨Nat.le_of_ble_eq_true rfl, Nat.le_of_ble_eq_true rfl⟩) ⟨pw_blind, tw_recv hK hT (fx_50 hX) (by decide) cl_e60 rfl, pw_use hT hK hFc hS hM⟩ rfl rfl hl.1 rfl (lv_room (Nat.le_of_ble_eq_true rfl)) dL_law_584 ⟨by show 200 + 4 * q + 1 + 0 ≤ 601024; omega, by show 60000 + 100 * q + 6 + 0 ≤ 7293034; omega⟩) hS (fun q _ h => hFc q h) hFc (fun r0 r_237 t H locs ht hvm hw hB hz1 hk1 hS => ?_)
        clear hvm hz1 hk1
        subst hw
        have hIo := hI
        obtain ⟨ym_238, gm_238, hgm_238, hggm_238, hJ, hT⟩ := hB
        rw [ht] at hT
        have hFo := hFo.m hIo hgm_238 (by decide) (hggm_238 (a 10) (by rw [fx_10 hX]; decide))
        have hI := hI.ag hgm_238 (by decide)
        have hI := hI.agg hggm_238
        have hW : IW (v 1) (v 2) (v 9) (ym_238 (a 89)) := by rw [hgm_238.at (fx_89 hX) (by decide)]; exact hW
        have hTh : vb 38408 0 4800 (ym_238 (a 99)) := by rw [hgm_238.at (fx_99 hX) (by decide)]; exact hTh
        refine lv_istore (lv' := [(6, .int r_237), (5, .int r_233), (0, .ref b), (1, .ref (a 0)), (2, .ref (a 50)), (3, .ref (a 49)), (4, .int i4)]) hx hb dL_law_587 hl (by decide) rfl (fun ls hl => ?_)
        refine lv_goto (tgt := 1360) hx hb dL_law_589 (by decide) ?_
        obtain ⟨x_239, ex_239⟩ : ∃ y : Int32, y = i4 + Int32.ofInt 10 := ⟨_, rfl⟩
        have hx_239 := z_add ex_239 rfl (zk (x := Int32.ofInt 10) 10 rfl) (by omega) (by omega)
        refine lv_iinc (v := x_239) (lv' := [(4, .int x_239), (6, .int r_237), (5, .int r_233), (0, .ref b), (1, .ref (a 0)), (2, .ref (a 50)), (3, .ref (a 49))]) hx hb dL_law_1360 hl (k := 6) rfl ex_239.symm (by decide) rfl (fun ls hl => ?_)
        refine lv_goto (tgt := 23) hx hb dL_law_1363 (by decide) ?_
        refine W.widen (k := 200 + 4 * (q + 1)) (n := 60000 + 100 * (q + 1)) (by omega) (by omega) ?_
        exact ih (q + 1) x_239 tm_234 lm_234 ym_238 gm_238 um_234 v H _ ls (by omega) hF hI hJ hW hTh hFo (by omega) (by omega) (by omega) (by omega) (by omega) hT hS (lv_sub hl [3, 4, 5, 6, 0] rfl)
      · refine lq_top (v := 9) t_5 ?_
        have nt_5 := z_eq rfl (zk (x := 9) 9 rfl) t_5
        refine lv_tableIn (tgt := 592) hx hb dL_law_40 (by decide) (by decide) (off := 552) (by decide) (by decide) ?_
        refine lv_aload_n hx hb dL_law_592 rfl (lv_at hl 1 rfl) ?_
        refine lv_aload_n hx hb dL_law_593 rfl (lv_at hl 0 rfl) ?_
        refine lv_iload hx hb dL_law_594 (lv_at hl 4 rfl) ?_
        refine lv_iconst (v := 1) hx hb dL_law_596 (by decide) ?_
        refine lv_iadd hx hb dL_law_597 ?_
        refine lv_topi (fun x_240 ex_240 => ?_)
        have hx_240 := z_add ex_240 rfl (zk (x := 1) 1 rfl) (by omega) (by omega)
        refine va_sld hx hb hXs hbl hbA hS (z_in rfl (by omega) (by omega)) dL_law_598 ?_
        refine lq_top (v := s1) (by rw [hs1]; exact congrArg xs (by rw [z_nat (x := x_240) rfl]; omega)) ?_
        refine lv_aload_n hx hb dL_law_599 rfl (lv_at hl 0 rfl) ?_
        refine lv_iload hx hb dL_law_600 (lv_at hl 4 rfl) ?_
        refine lv_iconst (v := 2) hx hb dL_law_602 (by decide) ?_
        refine lv_iadd hx hb dL_law_603 ?_
        refine lv_topi (fun x_241 ex_241 => ?_)
        have hx_241 := z_add ex_241 rfl (zk (x := 2) 2 rfl) (by omega) (by omega)
        refine va_sld hx hb hXs hbl hbA hS (z_in rfl (by omega) (by omega)) dL_law_604 ?_
        refine lq_top (v := s2) (by rw [hs2]; exact congrArg xs (by rw [z_nat (x := x_241) rfl]; omega)) ?_
        have hFc := tw_free hF hS hA
        refine va_calli (va_runV (As := [.int s1, .int s2]) (rest := []) ⟨hx, hb, hml, hown, hts⟩ (c_at l dC dI ad av H.size a k τ ln y g u s1 s2 hI ) (cwV 2 hts (gi_4 (im_law _ (List.mem_of_getElem? (i := 56) rfl)) (im_law _ (List.mem_of_getElem? (i := 57) rfl)) (im_law _ (List.mem_of_getElem? (i := 58) rfl)) (im_law _ (List.mem_of_getElem? (i := 3) rfl)) im_c_at gd_c_at) rfl rfl rfl (by decide +kernel) ⟨Nat.le_of_ble_eq_true rfl, Nat.le_of_ble_eq_true rfl⟩) ⟨pw_blind, tw_recv hK hT (fx_0 hX) (by decide) cl_e10 rfl, pw_use hT hK hFc hS hM⟩ rfl rfl hl.1 rfl (lv_room (Nat.le_of_ble_eq_true rfl)) dL_law_605 ⟨by show 200 + 4 * q + 0 ≤ 601024; omega, by show 60000 + 100 * q + 0 ≤ 7293034; omega⟩) hS (fun q _ h => hFc q h) hFc (fun r0 r_242 t H locs ht hvm hw hB hz1 hk1 hS => ?_)
        clear hvm hz1 hk1
        subst hw
        have hIo := hI
        obtain ⟨um_243, hum_243, ⟨tm_243, lm_243, ym_243, gm_243, hMo, hKM, hI, hT⟩⟩ := hB
        rw [ht] at hT
        have hF : ∀ q, tm_243 q ≠ 0 → s.heap.size ≤ q := fun q h => hFc q (hMo.2 q h)
        have hFo := hFo.kp hIo hKM (hum_243 1 (by decide)) (hum_243 2 (by decide)) (hum_243 9 (by decide))
        have hKM := hKM.to0
        have hJ := hJ.kp hKM hI.1
        have hW : IW (v 1) (v 2) (v 9) (ym_243 (a 89)) := by rw [hKM.fx hX (j := 89) (by decide) (by decide)]; exact hW
        have hTh : vb 38408 0 4800 (ym_243 (a 99)) := by rw [hKM.fx hX (j := 99) (by decide) (by decide)]; exact hTh
        have hX := hI.1
        have : um_243 2 = u 2 := hum_243 2 (by decide)
        have : um_243 9 = u 9 := hum_243 9 (by decide)
        refine lv_pop hx hb dL_law_608 rfl ?_
        refine lv_aload_n hx hb dL_law_609 rfl (lv_at hl 2 rfl) ?_
        refine lv_aload_n hx hb dL_law_610 rfl (lv_at hl 0 rfl) ?_
        refine lv_iload hx hb dL_law_611 (lv_at hl 4 rfl) ?_
        refine lv_iconst (v := 1) hx hb dL_law_613 (by decide) ?_
        refine lv_iadd hx hb dL_law_614 ?_
        refine lv_topi (fun x_244 ex_244 => ?_)
        have hx_244 := z_add ex_244 rfl (zk (x := 1) 1 rfl) (by omega) (by omega)
        refine va_sld hx hb hXs hbl hbA hS (z_in rfl (by omega) (by omega)) dL_law_615 ?_
        refine lq_top (v := s1) (by rw [hs1]; exact congrArg xs (by rw [z_nat (x := x_244) rfl]; omega)) ?_
        refine lv_aload_n hx hb dL_law_616 rfl (lv_at hl 0 rfl) ?_
        refine lv_iload hx hb dL_law_617 (lv_at hl 4 rfl) ?_
        refine lv_iconst (v := 2) hx hb dL_law_619 (by decide) ?_
        refine lv_iadd hx hb dL_law_620 ?_
        refine lv_topi (fun x_245 ex_245 => ?_)
        have hx_245 := z_add ex_245 rfl (zk (x := 2) 2 rfl) (by omega) (by omega)
        refine va_sld hx hb hXs hbl hbA hS (z_in rfl (by omega) (by omega)) dL_law_621 ?_
        refine lq_top (v := s2) (by rw [hs2]; exact congrArg xs (by rw [z_nat (x := x_245) rfl]; omega)) ?_
        have hFc := tw_free hF hS hA
        refine va_calli (va_runV (As := [.int s1, .int s2]) (rest := []) ⟨hx, hb, hml, hown, hts⟩ (m_at l dC dI ad av H.size a k tm_243 lm_243 ym_243 gm_243 v s1 s2 hJ hW) (cwV 2 hts (gi_4 (im_law _ (List.mem_of_getElem? (i := 59) rfl)) (im_law _ (List.mem_of_getElem? (i := 60) rfl)) (im_law _ (List.mem_of_getElem? (i := 61) rfl)) (im_law _ (List.mem_of_getElem? (i := 7) rfl)) im_m_at gd_m_at) rfl rfl rfl (by decide +kernel) ⟨Nat.le_of_ble_eq_true rfl, Nat.le_of_ble_eq_true rfl⟩) ⟨pw_blind, tw_recv hK hT (fx_50 hX) (by decide) cl_e60 rfl, pw_use hT hK hFc hS hM⟩ rfl rfl hl.1 rfl (lv_room (Nat.le_of_ble_eq_true rfl)) dL_law_622 ⟨by show 200 + 4 * q + 0 + 0 ≤ 601024; omega, by show 60000 + 100 * q + 0 + 0 ≤ 7293034; omega⟩) hS (fun q _ h => hFc q h) hFc (fun r0 r_246 t H locs ht hvm hw hB hz1 hk1 hS => ?_)
        clear hvm hz1 hk1
        subst hw
        have hIo := hI
        obtain ⟨ym_247, gm_247, hgm_247, hggm_247, hJ, hT⟩ := hB
        rw [ht] at hT
        have hFo := hFo.m hIo hgm_247 (by decide) (hggm_247 (a 10) (by rw [fx_10 hX]; decide))
        have hI := hI.ag hgm_247 (by decide)
        have hI := hI.agg hggm_247
        have hW : IW (v 1) (v 2) (v 9) (ym_247 (a 89)) := by rw [hgm_247.at (fx_89 hX) (by decide)]; exact hW
        have hTh : vb 38408 0 4800 (ym_247 (a 99)) := by rw [hgm_247.at (fx_99 hX) (by decide)]; exact hTh
        refine lv_pop hx hb dL_law_625 rfl ?_
        refine lv_goto (tgt := 1360) hx hb dL_law_626 (by decide) ?_
        obtain ⟨x_248, ex_248⟩ : ∃ y : Int32, y = i4 + Int32.ofInt 10 := ⟨_, rfl⟩
        have hx_248 := z_add ex_248 rfl (zk (x := Int32.ofInt 10) 10 rfl) (by omega) (by omega)
        refine lv_iinc (v := x_248) (lv' := [(4, .int x_248), (0, .ref b), (1, .ref (a 0)), (2, .ref (a 50)), (3, .ref (a 49))]) hx hb dL_law_1360 hl (k := 4) rfl ex_248.symm (by decide) rfl (fun ls hl => ?_)
        refine lv_goto (tgt := 23) hx hb dL_law_1363 (by decide) ?_
        refine W.widen (k := 200 + 4 * (q + 1)) (n := 60000 + 100 * (q + 1)) (by omega) (by omega) ?_
        exact ih (q + 1) x_248 tm_243 lm_243 ym_247 gm_247 um_243 v H _ ls (by omega) hF hI hJ hW hTh hFo (by omega) (by omega) (by omega) (by omega) (by omega) hT hS (lv_sub hl [1, 2, 3, 4, 0] rfl)
      · refine lq_top (v := 10) t_5 ?_
        have nt_5 := z_eq rfl (zk (x := 10) 10 rfl) t_5
        refine lv_tableIn (tgt := 629) hx hb dL_law_40 (by decide) (by decide) (off := 589) (by decide) (by decide) ?_
        refine lv_aload_n hx hb dL_law_629 rfl (lv_at hl 1 rfl) ?_
        refine lv_aload_n hx hb dL_law_630 rfl (lv_at hl 0 rfl) ?_
        refine lv_iload hx hb dL_law_631 (lv_at hl 4 rfl) ?_
        refine lv_iconst (v := 1) hx hb dL_law_633 (by decide) ?_
        refine lv_iadd hx hb dL_law_634 ?_
        refine lv_topi (fun x_249 ex_249 => ?_)
        have hx_249 := z_add ex_249 rfl (zk (x := 1) 1 rfl) (by omega) (by omega)
        refine va_sld hx hb hXs hbl hbA hS (z_in rfl (by omega) (by omega)) dL_law_635 ?_
        refine lq_top (v := s1) (by rw [hs1]; exact congrArg xs (by rw [z_nat (x := x_249) rfl]; omega)) ?_
        refine lv_aload_n hx hb dL_law_636 rfl (lv_at hl 0 rfl) ?_
        refine lv_iload hx hb dL_law_637 (lv_at hl 4 rfl) ?_
        refine lv_iconst (v := 2) hx hb dL_law_639 (by decide) ?_
        refine lv_iadd hx hb dL_law_640 ?_
        refine lv_topi (fun x_250 ex_250 => ?_)
        have hx_250 := z_add ex_250 rfl (zk (x := 2) 2 rfl) (by omega) (by omega)
        refine va_sld hx hb hXs hbl hbA hS (z_in rfl (by omega) (by omega)) dL_law_641 ?_
        refine lq_top (v := s2) (by rw [hs2]; exact congrArg xs (by rw [z_nat (x := x_250) rfl]; omega)) ?_
        have hFc := tw_free hF hS hA
        refine va_calli (va_runV (As := [.int s1, .int s2]) (rest := []) ⟨hx, hb, hml, hown, hts⟩ (c_may l dC dI ad av H.size a k τ ln y g u s1 s2 hI ) (cwV 2 hts (gi_4 (im_law _ (List.mem_of_getElem? (i := 62) rfl)) (im_law _ (List.mem_of_getElem? (i := 63) rfl)) (im_law _ (List.mem_of_getElem? (i := 64) rfl)) (im_law _ (List.mem_of_getElem? (i := 3) rfl)) im_c_may gd_c_may) rfl rfl rfl (by decide +kernel) ⟨Nat.le_of_ble_eq_true rfl, Nat.le_of_ble_eq_true rfl⟩) ⟨pw_blind, tw_recv hK hT (fx_0 hX) (by decide) cl_e10 rfl, pw_use hT hK hFc hS hM⟩ rfl rfl hl.1 rfl (lv_room (Nat.le_of_ble_eq_true rfl)) dL_law_642 ⟨by show 200 + 4 * q + 0 ≤ 601024; omega, by show 60000 + 100 * q + 0 ≤ 7293034; omega⟩) hS (fun q _ h => hFc q h) hFc (fun r0 r_251 t H locs ht hvm hw hB hz1 hk1 hS => ?_)
        clear hvm hz1 hk1
        subst hw
        have hIo := hI
        obtain ⟨um_252, hum_252, ⟨tm_252, lm_252, ym_252, gm_252, hMo, hKM, hI, hT⟩⟩ := hB
        rw [ht] at hT
        have hF : ∀ q, tm_252 q ≠ 0 → s.heap.size ≤ q := fun q h => hFc q (hMo.2 q h)
        have hFo := hFo.kp hIo hKM (hum_252 1 (by decide)) (hum_252 2 (by decide)) (hum_252 9 (by decide))
        have hKM := hKM.to0
        have hJ := hJ.kp hKM hI.1
        have hW : IW (v 1) (v 2) (v 9) (ym_252 (a 89)) := by rw [hKM.fx hX (j := 89) (by decide) (by decide)]; exact hW
        have hTh : vb 38408 0 4800 (ym_252 (a 99)) := by rw [hKM.fx hX (j := 99) (by decide) (by decide)]; exact hTh
        have hX := hI.1
        have : um_252 2 = u 2 := hum_252 2 (by decide)
        have : um_252 9 = u 9 := hum_252 9 (by decide)
        refine lv_pop hx hb dL_law_645 rfl ?_
        refine lv_aload_n hx hb dL_law_646 rfl (lv_at hl 2 rfl) ?_
        refine lv_aload_n hx hb dL_law_647 rfl (lv_at hl 0 rfl) ?_
        refine lv_iload hx hb dL_law_648 (lv_at hl 4 rfl) ?_
        refine lv_iconst (v := 1) hx hb dL_law_650 (by decide) ?_
        refine lv_iadd hx hb dL_law_651 ?_
        refine lv_topi (fun x_253 ex_253 => ?_)
        have hx_253 := z_add ex_253 rfl (zk (x := 1) 1 rfl) (by omega) (by omega)
        refine va_sld hx hb hXs hbl hbA hS (z_in rfl (by omega) (by omega)) dL_law_652 ?_
        refine lq_top (v := s1) (by rw [hs1]; exact congrArg xs (by rw [z_nat (x := x_253) rfl]; omega)) ?_
        refine lv_aload_n hx hb dL_law_653 rfl (lv_at hl 0 rfl) ?_
        refine lv_iload hx hb dL_law_654 (lv_at hl 4 rfl) ?_
        refine lv_iconst (v := 2) hx hb dL_law_656 (by decide) ?_
        refine lv_iadd hx hb dL_law_657 ?_
        refine lv_topi (fun x_254 ex_254 => ?_)
        have hx_254 := z_add ex_254 rfl (zk (x := 2) 2 rfl) (by omega) (by omega)
        refine va_sld hx hb hXs hbl hbA hS (z_in rfl (by omega) (by omega)) dL_law_658 ?_
        refine lq_top (v := s2) (by rw [hs2]; exact congrArg xs (by rw [z_nat (x := x_254) rfl]; omega)) ?_
        have hFc := tw_free hF hS hA
        refine va_calli (va_runV (As := [.int s1, .int s2]) (rest := []) ⟨hx, hb, hml, hown, hts⟩ (m_may l dC dI ad av H.size a k tm_252 lm_252 ym_252 gm_252 v s1 s2 hJ hW) (cwV 2 hts (gi_4 (im_law _ (List.mem_of_getElem? (i := 65) rfl)) (im_law _ (List.mem_of_getElem? (i := 66) rfl)) (im_law _ (List.mem_of_getElem? (i := 67) rfl)) (im_law _ (List.mem_of_getElem? (i := 7) rfl)) im_m_may gd_m_may) rfl rfl rfl (by decide +kernel) ⟨Nat.le_of_ble_eq_true rfl, Nat.le_of_ble_eq_true rfl⟩) ⟨pw_blind, tw_recv hK hT (fx_50 hX) (by decide) cl_e60 rfl, pw_use hT hK hFc hS hM⟩ rfl rfl hl.1 rfl (lv_room (Nat.le_of_ble_eq_true rfl)) dL_law_659 ⟨by show 200 + 4 * q + 0 + 0 ≤ 601024; omega, by show 60000 + 100 * q + 0 + 0 ≤ 7293034; omega⟩) hS (fun q _ h => hFc q h) hFc (fun r0 r_255 t H locs ht hvm hw hB hz1 hk1 hS => ?_)
        clear hvm hz1 hk1
        subst hw
        have hIo := hI
        obtain ⟨ym_256, gm_256, hgm_256, hggm_256, hJ, hT⟩ := hB
        rw [ht] at hT
        have hFo := hFo.m hIo hgm_256 (by decide) (hggm_256 (a 10) (by rw [fx_10 hX]; decide))
        have hI := hI.ag hgm_256 (by decide)
        have hI := hI.agg hggm_256
        have hW : IW (v 1) (v 2) (v 9) (ym_256 (a 89)) := by rw [hgm_256.at (fx_89 hX) (by decide)]; exact hW
        have hTh : vb 38408 0 4800 (ym_256 (a 99)) := by rw [hgm_256.at (fx_99 hX) (by decide)]; exact hTh
        refine lv_pop hx hb dL_law_662 rfl ?_
        refine lv_goto (tgt := 1360) hx hb dL_law_663 (by decide) ?_
        obtain ⟨x_257, ex_257⟩ : ∃ y : Int32, y = i4 + Int32.ofInt 10 := ⟨_, rfl⟩
        have hx_257 := z_add ex_257 rfl (zk (x := Int32.ofInt 10) 10 rfl) (by omega) (by omega)
        refine lv_iinc (v := x_257) (lv' := [(4, .int x_257), (0, .ref b), (1, .ref (a 0)), (2, .ref (a 50)), (3, .ref (a 49))]) hx hb dL_law_1360 hl (k := 4) rfl ex_257.symm (by decide) rfl (fun ls hl => ?_)
        refine lv_goto (tgt := 23) hx hb dL_law_1363 (by decide) ?_
        refine W.widen (k := 200 + 4 * (q + 1)) (n := 60000 + 100 * (q + 1)) (by omega) (by omega) ?_
        exact ih (q + 1) x_257 tm_252 lm_252 ym_256 gm_256 um_252 v H _ ls (by omega) hF hI hJ hW hTh hFo (by omega) (by omega) (by omega) (by omega) (by omega) hT hS (lv_sub hl [1, 2, 3, 4, 0] rfl)
      · refine lq_top (v := 11) t_5 ?_
        have nt_5 := z_eq rfl (zk (x := 11) 11 rfl) t_5
        refine lv_tableIn (tgt := 666) hx hb dL_law_40 (by decide) (by decide) (off := 626) (by decide) (by decide) ?_
        refine lv_aload_n hx hb dL_law_666 rfl (lv_at hl 1 rfl) ?_
        refine lv_aload_n hx hb dL_law_667 rfl (lv_at hl 0 rfl) ?_
        refine lv_iload hx hb dL_law_668 (lv_at hl 4 rfl) ?_
        refine lv_iconst (v := 1) hx hb dL_law_670 (by decide) ?_
        refine lv_iadd hx hb dL_law_671 ?_
        refine lv_topi (fun x_258 ex_258 => ?_)
        have hx_258 := z_add ex_258 rfl (zk (x := 1) 1 rfl) (by omega) (by omega)
        refine va_sld hx hb hXs hbl hbA hS (z_in rfl (by omega) (by omega)) dL_law_672 ?_
        refine lq_top (v := s1) (by rw [hs1]; exact congrArg xs (by rw [z_nat (x := x_258) rfl]; omega)) ?_
        refine lv_aload_n hx hb dL_law_673 rfl (lv_at hl 0 rfl) ?_
        refine lv_iload hx hb dL_law_674 (lv_at hl 4 rfl) ?_
        refine lv_iconst (v := 2) hx hb dL_law_676 (by decide) ?_
        refine lv_iadd hx hb dL_law_677 ?_
        refine lv_topi (fun x_259 ex_259 => ?_)
        have hx_259 := z_add ex_259 rfl (zk (x := 2) 2 rfl) (by omega) (by omega)
        refine va_sld hx hb hXs hbl hbA hS (z_in rfl (by omega) (by omega)) dL_law_678 ?_
        refine lq_top (v := s2) (by rw [hs2]; exact congrArg xs (by rw [z_nat (x := x_259) rfl]; omega)) ?_
        refine lv_aload_n hx hb dL_law_679 rfl (lv_at hl 3 rfl) ?_
        have hFc := tw_free hF hS hA
        refine va_calli (vx_runSW (As := [.ref (a 0), .int s1, .int s2, .ref (a 49)]) (rest := []) ⟨hx, hb, hml, hown, hts⟩ (k_order l hst dC dI ad av H.size a k τ ln y g u s1 s2 hI ) (vx_cwSW 4 hts (gi_3 (im_law _ (List.mem_of_getElem? (i := 68) rfl)) (im_law _ (List.mem_of_getElem? (i := 69) rfl)) (im_law _ (List.mem_of_getElem? (i := 52) rfl)) im_k_order gd_k_order) rfl rfl rfl (by decide +kernel) ⟨Nat.le_of_ble_eq_true rfl, Nat.le_of_ble_eq_true rfl⟩) ⟨pw_blind, pw_use hT hK hFc hS hM⟩ rfl rfl hl.1 rfl (lv_room (Nat.le_of_ble_eq_true rfl)) dL_law_680 ⟨by show 200 + 4 * q + 1 ≤ 601024; omega, by show 60000 + 100 * q + 6 ≤ 7293034; omega⟩) hS (fun q _ h => hFc q h) hFc (fun r0 r_260 t H locs ht hvm hw hB hz1 hk1 hS => ?_)
        clear hvm hz1 hk1
        subst hw
        have hIo := hI
        obtain ⟨um_261, hum_261, ⟨tm_261, lm_261, ym_261, gm_261, hMo, hKM, hI, hT⟩⟩ := hB
        rw [ht] at hT
        have hF : ∀ q, tm_261 q ≠ 0 → s.heap.size ≤ q := fun q h => hFc q (hMo.2 q h)
        have hFo := hFo.kp hIo hKM (hum_261 1 (by decide)) (hum_261 2 (by decide)) (hum_261 9 (by decide))
        have hKM := hKM.to0
        have hJ := hJ.kp hKM hI.1
        have hW : IW (v 1) (v 2) (v 9) (ym_261 (a 89)) := by rw [hKM.fx hX (j := 89) (by decide) (by decide)]; exact hW
        have hTh : vb 38408 0 4800 (ym_261 (a 99)) := by rw [hKM.fx hX (j := 99) (by decide) (by decide)]; exact hTh
        have hX := hI.1
        have : um_261 2 = u 2 := hum_261 2 (by decide)
        have : um_261 9 = u 9 := hum_261 9 (by decide)
        refine lv_istore (lv' := [(5, .int r_260), (0, .ref b), (1, .ref (a 0)), (2, .ref (a 50)), (3, .ref (a 49)), (4, .int i4)]) hx hb dL_law_683 hl (by decide) rfl (fun ls hl => ?_)
        refine lv_aload_n hx hb dL_law_685 rfl (lv_at hl 3 rfl) ?_
        refine lv_aload_n hx hb dL_law_686 rfl (lv_at hl 1 rfl) ?_
        refine lv_iload hx hb dL_law_687 (lv_at hl 5 rfl) ?_
        refine lv_iconst (v := 1) hx hb dL_law_689 (by decide) ?_
        refine lv_iadd hx hb dL_law_690 ?_
        refine lv_topi (fun x_262 ex_262 => ?_)
        have hx_262 := z_add ex_262 rfl (zk (x := 1) 1 rfl) (by omega) (by omega)
        refine va_sld hx hb hXs hbl hbA hS (z_in rfl (by omega) (by omega)) dL_law_691 ?_
        refine lq_top (v := s1) (by rw [hs1]; exact congrArg xs (by rw [z_nat (x := x_262) rfl]; omega)) ?_
        refine lv_aload_n hx hb dL_law_692 rfl (lv_at hl 1 rfl) ?_
        refine lv_iload hx hb dL_law_693 (lv_at hl 5 rfl) ?_
        refine lv_iconst (v := 2) hx hb dL_law_695 (by decide) ?_
        refine lv_iadd hx hb dL_law_696 ?_
        refine lv_topi (fun x_263 ex_263 => ?_)
        have hx_263 := z_add ex_263 rfl (zk (x := 2) 2 rfl) (by omega) (by omega)
        refine va_sld hx hb hXs hbl hbA hS (z_in rfl (by omega) (by omega)) dL_law_697 ?_
        refine lq_top (v := s2) (by rw [hs2]; exact congrArg xs (by rw [z_nat (x := x_263) rfl]; omega)) ?_
        have hFc := tw_free hF hS hA
        refine va_calli (va_runV (As := [.int s1, .int s2]) (rest := []) ⟨hx, hb, hml, hown, hts⟩ (m_order l dC dI ad av H.size a k tm_261 lm_261 ym_261 gm_261 v s1 s2 hJ hW) (cwV 2 hts (gi_4 (im_law _ (List.mem_of_getElem? (i := 70) rfl)) (im_law _ (List.mem_of_getElem? (i := 71) rfl)) (im_law _ (List.mem_of_getElem? (i := 72) rfl)) (im_law _ (List.mem_of_getElem? (i := 7) rfl)) im_m_order gd_m_order) rfl rfl rfl (by decide +kernel) ⟨Nat.le_of_ble_eq_true rfl, Nat.le_of_ble_eq_true rfl⟩) ⟨pw_blind, tw_recv hK hT (fx_50 hX) (by decide) cl_e60 rfl, pw_use hT hK hFc hS hM⟩ rfl rfl hl.1 rfl (lv_room (Nat.le_of_ble_eq_true rfl)) dL_law_698 ⟨by show 200 + 4 * q + 1 + 0 ≤ 601024; omega, by show 60000 + 100 * q + 6 + 0 ≤ 7293034; omega⟩) hS (fun q _ h => hFc q h) hFc (fun r0 r_264 t H locs ht hvm hw hB hz1 hk1 hS => ?_)
        clear hvm hz1 hk1
        subst hw
        have hIo := hI
        obtain ⟨ym_265, gm_265, hgm_265, hggm_265, hJ, hT⟩ := hB
        rw [ht] at hT
        have hFo := hFo.m hIo hgm_265 (by decide) (hggm_265 (a 10) (by rw [fx_10 hX]; decide))
        have hI := hI.ag hgm_265 (by decide)
        have hI := hI.agg hggm_265
        have hW : IW (v 1) (v 2) (v 9) (ym_265 (a 89)) := by rw [hgm_265.at (fx_89 hX) (by decide)]; exact hW
        have hTh : vb 38408 0 4800 (ym_265 (a 99)) := by rw [hgm_265.at (fx_99 hX) (by decide)]; exact hTh
        refine lv_istore (lv' := [(6, .int r_264), (5, .int r_260), (0, .ref b), (1, .ref (a 0)), (2, .ref (a 50)), (3, .ref (a 49)), (4, .int i4)]) hx hb dL_law_701 hl (by decide) rfl (fun ls hl => ?_)
        refine lv_goto (tgt := 1360) hx hb dL_law_703 (by decide) ?_
        obtain ⟨x_266, ex_266⟩ : ∃ y : Int32, y = i4 + Int32.ofInt 10 := ⟨_, rfl⟩
        have hx_266 := z_add ex_266 rfl (zk (x := Int32.ofInt 10) 10 rfl) (by omega) (by omega)
        refine lv_iinc (v := x_266) (lv' := [(4, .int x_266), (6, .int r_264), (5, .int r_260), (0, .ref b), (1, .ref (a 0)), (2, .ref (a 50)), (3, .ref (a 49))]) hx hb dL_law_1360 hl (k := 6) rfl ex_266.symm (by decide) rfl (fun ls hl => ?_)
        refine lv_goto (tgt := 23) hx hb dL_law_1363 (by decide) ?_
        refine W.widen (k := 200 + 4 * (q + 1)) (n := 60000 + 100 * (q + 1)) (by omega) (by omega) ?_
        exact ih (q + 1) x_266 tm_261 lm_261 ym_265 gm_265 um_261 v H _ ls (by omega) hF hI hJ hW hTh hFo (by omega) (by omega) (by omega) (by omega) (by omega) hT hS (lv_sub hl [3, 4, 5, 6, 0] rfl)
      · refine lq_top (v := 12) t_5 ?_
        have nt_5 := z_eq rfl (zk (x := 12) 12 rfl) t_5
        refine lv_tableIn (tgt := 706) hx hb dL_law_40 (by decide) (by decide) (off := 666) (by decide) (by decide) ?_
        refine lv_aload_n hx hb dL_law_706 rfl (lv_at hl 1 rfl) ?_
        refine lv_aload_n hx hb dL_law_707 rfl (lv_at hl 0 rfl) ?_
        refine lv_iload hx hb dL_law_708 (lv_at hl 4 rfl) ?_
        refine lv_iconst (v := 1) hx hb dL_law_710 (by decide) ?_
        refine lv_iadd hx hb dL_law_711 ?_
        refine lv_topi (fun x_267 ex_267 => ?_)
        have hx_267 := z_add ex_267 rfl (zk (x := 1) 1 rfl) (by omega) (by omega)
        refine va_sld hx hb hXs hbl hbA hS (z_in rfl (by omega) (by omega)) dL_law_712 ?_
        refine lq_top (v := s1) (by rw [hs1]; exact congrArg xs (by rw [z_nat (x := x_267) rfl]; omega)) ?_
        have hFc := tw_free hF hS hA
        refine va_calli (va_runV (As := [.int s1]) (rest := []) ⟨hx, hb, hml, hown, hts⟩ (c_goes l dC dI ad av H.size a k τ ln y g u s1 hI ) (cwV 1 hts (gi_4 (im_law _ (List.mem_of_getElem? (i := 73) rfl)) (im_law _ (List.mem_of_getElem? (i := 74) rfl)) (im_law _ (List.mem_of_getElem? (i := 75) rfl)) (im_law _ (List.mem_of_getElem? (i := 3) rfl)) im_c_goes gd_c_goes) rfl rfl rfl (by decide +kernel) ⟨Nat.le_of_ble_eq_true rfl, Nat.le_of_ble_eq_true rfl⟩) ⟨pw_blind, tw_recv hK hT (fx_0 hX) (by decide) cl_e10 rfl, pw_use hT hK hFc hS hM⟩ rfl rfl hl.1 rfl (lv_room (Nat.le_of_ble_eq_true rfl)) dL_law_713 ⟨by show 200 + 4 * q + 0 ≤ 601024; omega, by show 60000 + 100 * q + 0 ≤ 7293034; omega⟩) hS (fun q _ h => hFc q h) hFc (fun r0 r_268 t H locs ht hvm hw hB hz1 hk1 hS => ?_)
        clear hvm hz1 hk1
        subst hw
        have hIo := hI
        obtain ⟨um_269, hum_269, ⟨tm_269, lm_269, ym_269, gm_269, hMo, hKM, hI, hT⟩⟩ := hB
        rw [ht] at hT
        have hF : ∀ q, tm_269 q ≠ 0 → s.heap.size ≤ q := fun q h => hFc q (hMo.2 q h)
        have hFo := hFo.kp hIo hKM (hum_269 1 (by decide)) (hum_269 2 (by decide)) (hum_269 9 (by decide))
        have hKM := hKM.to0
        have hJ := hJ.kp hKM hI.1
        have hW : IW (v 1) (v 2) (v 9) (ym_269 (a 89)) := by rw [hKM.fx hX (j := 89) (by decide) (by decide)]; exact hW
        have hTh : vb 38408 0 4800 (ym_269 (a 99)) := by rw [hKM.fx hX (j := 99) (by decide) (by decide)]; exact hTh
        have hX := hI.1
        have : um_269 2 = u 2 := hum_269 2 (by decide)
        have : um_269 9 = u 9 := hum_269 9 (by decide)
        refine lv_pop hx hb dL_law_716 rfl ?_
        refine lv_aload_n hx hb dL_law_717 rfl (lv_at hl 2 rfl) ?_
        refine lv_aload_n hx hb dL_law_718 rfl (lv_at hl 0 rfl) ?_
        refine lv_iload hx hb dL_law_719 (lv_at hl 4 rfl) ?_
        refine lv_iconst (v := 1) hx hb dL_law_721 (by decide) ?_
        refine lv_iadd hx hb dL_law_722 ?_
        refine lv_topi (fun x_270 ex_270 => ?_)
        have hx_270 := z_add ex_270 rfl (zk (x := 1) 1 rfl) (by omega) (by omega)
        refine va_sld hx hb hXs hbl hbA hS (z_in rfl (by omega) (by omega)) dL_law_723 ?_
        refine lq_top (v := s1) (by rw [hs1]; exact congrArg xs (by rw [z_nat (x := x_270) rfl]; omega)) ?_
        have hFc := tw_free hF hS hA
        refine va_calli (va_runV (As := [.int s1]) (rest := []) ⟨hx, hb, hml, hown, hts⟩ (m_goes l dC dI ad av H.size a k tm_269 lm_269 ym_269 gm_269 v s1 hJ hW) (cwV 1 hts (gi_4 (im_law _ (List.mem_of_getElem? (i := 76) rfl)) (im_law _ (List.mem_of_getElem? (i := 77) rfl)) (im_law _ (List.mem_of_getElem? (i := 78) rfl)) (im_law _ (List.mem_of_getElem? (i := 7) rfl)) im_m_goes gd_m_goes) rfl rfl rfl (by decide +kernel) ⟨Nat.le_of_ble_eq_true rfl, Nat.le_of_ble_eq_true rfl⟩) ⟨pw_blind, tw_recv hK hT (fx_50 hX) (by decide) cl_e60 rfl, pw_use hT hK hFc hS hM⟩ rfl rfl hl.1 rfl (lv_room (Nat.le_of_ble_eq_true rfl)) dL_law_724 ⟨by show 200 + 4 * q + 0 + 0 ≤ 601024; omega, by show 60000 + 100 * q + 0 + 0 ≤ 7293034; omega⟩) hS (fun q _ h => hFc q h) hFc (fun r0 r_271 t H locs ht hvm hw hB hz1 hk1 hS => ?_)
        clear hvm hz1 hk1
        subst hw
        have hIo := hI
        obtain ⟨ym_272, gm_272, hgm_272, hggm_272, hJ, hT⟩ := hB
        rw [ht] at hT
        have hFo := hFo.m hIo hgm_272 (by decide) (hggm_272 (a 10) (by rw [fx_10 hX]; decide))
        have hI := hI.ag hgm_272 (by decide)
        have hI := hI.agg hggm_272
        have hW : IW (v 1) (v 2) (v 9) (ym_272 (a 89)) := by rw [hgm_272.at (fx_89 hX) (by decide)]; exact hW
        have hTh : vb 38408 0 4800 (ym_272 (a 99)) := by rw [hgm_272.at (fx_99 hX) (by decide)]; exact hTh
        refine lv_pop hx hb dL_law_727 rfl ?_
        refine lv_goto (tgt := 1360) hx hb dL_law_728 (by decide) ?_
        obtain ⟨x_273, ex_273⟩ : ∃ y : Int32, y = i4 + Int32.ofInt 10 := ⟨_, rfl⟩
        have hx_273 := z_add ex_273 rfl (zk (x := Int32.ofInt 10) 10 rfl) (by omega) (by omega)
        refine lv_iinc (v := x_273) (lv' := [(4, .int x_273), (0, .ref b), (1, .ref (a 0)), (2, .ref (a 50)), (3, .ref (a 49))]) hx hb dL_law_1360 hl (k := 4) rfl ex_273.symm (by decide) rfl (fun ls hl => ?_)
        refine lv_goto (tgt := 23) hx hb dL_law_1363 (by decide) ?_
        refine W.widen (k := 200 + 4 * (q + 1)) (n := 60000 + 100 * (q + 1)) (by omega) (by omega) ?_
        exact ih (q + 1) x_273 tm_269 lm_269 ym_272 gm_272 um_269 v H _ ls (by omega) hF hI hJ hW hTh hFo (by omega) (by omega) (by omega) (by omega) (by omega) hT hS (lv_sub hl [1, 2, 3, 4, 0] rfl)
      · refine lq_top (v := 13) t_5 ?_
        have nt_5 := z_eq rfl (zk (x := 13) 13 rfl) t_5
        refine lv_tableIn (tgt := 731) hx hb dL_law_40 (by decide) (by decide) (off := 691) (by decide) (by decide) ?_
        refine lv_aload_n hx hb dL_law_731 rfl (lv_at hl 1 rfl) ?_
        refine lv_aload_n hx hb dL_law_732 rfl (lv_at hl 0 rfl) ?_
        refine lv_iload hx hb dL_law_733 (lv_at hl 4 rfl) ?_
        refine lv_iconst (v := 1) hx hb dL_law_735 (by decide) ?_
        refine lv_iadd hx hb dL_law_736 ?_
        refine lv_topi (fun x_274 ex_274 => ?_)
        have hx_274 := z_add ex_274 rfl (zk (x := 1) 1 rfl) (by omega) (by omega)
        refine va_sld hx hb hXs hbl hbA hS (z_in rfl (by omega) (by omega)) dL_law_737 ?_
        refine lq_top (v := s1) (by rw [hs1]; exact congrArg xs (by rw [z_nat (x := x_274) rfl]; omega)) ?_
        have hFc := tw_free hF hS hA
        refine va_calli (va_runV (As := [.int s1]) (rest := []) ⟨hx, hb, hml, hown, hts⟩ (c_count l dC dI ad av H.size a k τ ln y g u s1 hI ) (cwV 1 hts (gi_4 (im_law _ (List.mem_of_getElem? (i := 79) rfl)) (im_law _ (List.mem_of_getElem? (i := 80) rfl)) (im_law _ (List.mem_of_getElem? (i := 81) rfl)) (im_law _ (List.mem_of_getElem? (i := 3) rfl)) im_c_count gd_c_count) rfl rfl rfl (by decide +kernel) ⟨Nat.le_of_ble_eq_true rfl, Nat.le_of_ble_eq_true rfl⟩) ⟨pw_blind, tw_recv hK hT (fx_0 hX) (by decide) cl_e10 rfl, pw_use hT hK hFc hS hM⟩ rfl rfl hl.1 rfl (lv_room (Nat.le_of_ble_eq_true rfl)) dL_law_738 ⟨by show 200 + 4 * q + 0 ≤ 601024; omega, by show 60000 + 100 * q + 0 ≤ 7293034; omega⟩) hS (fun q _ h => hFc q h) hFc (fun r0 r_275 t H locs ht hvm hw hB hz1 hk1 hS => ?_)
        clear hvm hz1 hk1
        subst hw
        have hIo := hI
        obtain ⟨um_276, hum_276, ⟨tm_276, lm_276, ym_276, gm_276, hMo, hKM, hI, hT⟩⟩ := hB
        rw [ht] at hT
        have hF : ∀ q, tm_276 q ≠ 0 → s.heap.size ≤ q := fun q h => hFc q (hMo.2 q h)
        have hFo := hFo.kp hIo hKM (hum_276 1 (by decide)) (hum_276 2 (by decide)) (hum_276 9 (by decide))
        have hKM := hKM.to0
        have hJ := hJ.kp hKM hI.1
        have hW : IW (v 1) (v 2) (v 9) (ym_276 (a 89)) := by rw [hKM.fx hX (j := 89) (by decide) (by decide)]; exact hW
        have hTh : vb 38408 0 4800 (ym_276 (a 99)) := by rw [hKM.fx hX (j := 99) (by decide) (by decide)]; exact hTh
        have hX := hI.1
        have : um_276 2 = u 2 := hum_276 2 (by decide)
        have : um_276 9 = u 9 := hum_276 9 (by decide)
        refine lv_pop hx hb dL_law_741 rfl ?_
        refine lv_aload_n hx hb dL_law_742 rfl (lv_at hl 2 rfl) ?_
        refine lv_aload_n hx hb dL_law_743 rfl (lv_at hl 0 rfl) ?_
        refine lv_iload hx hb dL_law_744 (lv_at hl 4 rfl) ?_
        refine lv_iconst (v := 1) hx hb dL_law_746 (by decide) ?_
        refine lv_iadd hx hb dL_law_747 ?_
        refine lv_topi (fun x_277 ex_277 => ?_)
        have hx_277 := z_add ex_277 rfl (zk (x := 1) 1 rfl) (by omega) (by omega)
        refine va_sld hx hb hXs hbl hbA hS (z_in rfl (by omega) (by omega)) dL_law_748 ?_
        refine lq_top (v := s1) (by rw [hs1]; exact congrArg xs (by rw [z_nat (x := x_277) rfl]; omega)) ?_
        have hFc := tw_free hF hS hA
        refine va_calli (va_runV (As := [.int s1]) (rest := []) ⟨hx, hb, hml, hown, hts⟩ (m_count l dC dI ad av H.size a k tm_276 lm_276 ym_276 gm_276 v s1 hJ hW) (cwV 1 hts (gi_4 (im_law _ (List.mem_of_getElem? (i := 82) rfl)) (im_law _ (List.mem_of_getElem? (i := 83) rfl)) (im_law _ (List.mem_of_getElem? (i := 84) rfl)) (im_law _ (List.mem_of_getElem? (i := 7) rfl)) im_m_count gd_m_count) rfl rfl rfl (by decide +kernel) ⟨Nat.le_of_ble_eq_true rfl, Nat.le_of_ble_eq_true rfl⟩) ⟨pw_blind, tw_recv hK hT (fx_50 hX) (by decide) cl_e60 rfl, pw_use hT hK hFc hS hM⟩ rfl rfl hl.1 rfl (lv_room (Nat.le_of_ble_eq_true rfl)) dL_law_749 ⟨by show 200 + 4 * q + 0 + 0 ≤ 601024; omega, by show 60000 + 100 * q + 0 + 0 ≤ 7293034; omega⟩) hS (fun q _ h => hFc q h) hFc (fun r0 r_278 t H locs ht hvm hw hB hz1 hk1 hS => ?_)
        clear hvm hz1 hk1
        subst hw
        have hIo := hI
        obtain ⟨ym_279, gm_279, hgm_279, hggm_279, hJ, hT⟩ := hB
        rw [ht] at hT
        have hFo := hFo.m hIo hgm_279 (by decide) (hggm_279 (a 10) (by rw [fx_10 hX]; decide))
        have hI := hI.ag hgm_279 (by decide)
        have hI := hI.agg hggm_279
        have hW : IW (v 1) (v 2) (v 9) (ym_279 (a 89)) := by rw [hgm_279.at (fx_89 hX) (by decide)]; exact hW
        have hTh : vb 38408 0 4800 (ym_279 (a 99)) := by rw [hgm_279.at (fx_99 hX) (by decide)]; exact hTh
        refine lv_pop hx hb dL_law_752 rfl ?_
        refine lv_goto (tgt := 1360) hx hb dL_law_753 (by decide) ?_
        obtain ⟨x_280, ex_280⟩ : ∃ y : Int32, y = i4 + Int32.ofInt 10 := ⟨_, rfl⟩
        have hx_280 := z_add ex_280 rfl (zk (x := Int32.ofInt 10) 10 rfl) (by omega) (by omega)
        refine lv_iinc (v := x_280) (lv' := [(4, .int x_280), (0, .ref b), (1, .ref (a 0)), (2, .ref (a 50)), (3, .ref (a 49))]) hx hb dL_law_1360 hl (k := 4) rfl ex_280.symm (by decide) rfl (fun ls hl => ?_)
        refine lv_goto (tgt := 23) hx hb dL_law_1363 (by decide) ?_
        refine W.widen (k := 200 + 4 * (q + 1)) (n := 60000 + 100 * (q + 1)) (by omega) (by omega) ?_
        exact ih (q + 1) x_280 tm_276 lm_276 ym_279 gm_279 um_276 v H _ ls (by omega) hF hI hJ hW hTh hFo (by omega) (by omega) (by omega) (by omega) (by omega) hT hS (lv_sub hl [1, 2, 3, 4, 0] rfl)
      · refine lq_top (v := 14) t_5 ?_
        have nt_5 := z_eq rfl (zk (x := 14) 14 rfl) t_5
        refine lv_tableIn (tgt := 756) hx hb dL_law_40 (by decide) (by decide) (off := 716) (by decide) (by decide) ?_
        refine lv_aload_n hx hb dL_law_756 rfl (lv_at hl 1 rfl) ?_
        refine lv_aload_n hx hb dL_law_757 rfl (lv_at hl 0 rfl) ?_
        refine lv_iload hx hb dL_law_758 (lv_at hl 4 rfl) ?_
        refine lv_iconst (v := 1) hx hb dL_law_760 (by decide) ?_
        refine lv_iadd hx hb dL_law_761 ?_
        refine lv_topi (fun x_281 ex_281 => ?_)
        have hx_281 := z_add ex_281 rfl (zk (x := 1) 1 rfl) (by omega) (by omega)
        refine va_sld hx hb hXs hbl hbA hS (z_in rfl (by omega) (by omega)) dL_law_762 ?_
        refine lq_top (v := s1) (by rw [hs1]; exact congrArg xs (by rw [z_nat (x := x_281) rfl]; omega)) ?_
        refine lv_aload_n hx hb dL_law_763 rfl (lv_at hl 0 rfl) ?_
        refine lv_iload hx hb dL_law_764 (lv_at hl 4 rfl) ?_
        refine lv_iconst (v := 2) hx hb dL_law_766 (by decide) ?_
        refine lv_iadd hx hb dL_law_767 ?_
        refine lv_topi (fun x_282 ex_282 => ?_)
        have hx_282 := z_add ex_282 rfl (zk (x := 2) 2 rfl) (by omega) (by omega)
        refine va_sld hx hb hXs hbl hbA hS (z_in rfl (by omega) (by omega)) dL_law_768 ?_
        refine lq_top (v := s2) (by rw [hs2]; exact congrArg xs (by rw [z_nat (x := x_282) rfl]; omega)) ?_
        refine lv_aload_n hx hb dL_law_769 rfl (lv_at hl 0 rfl) ?_
        refine lv_iload hx hb dL_law_770 (lv_at hl 4 rfl) ?_
        refine lv_iconst (v := 3) hx hb dL_law_772 (by decide) ?_
        refine lv_iadd hx hb dL_law_773 ?_
        refine lv_topi (fun x_283 ex_283 => ?_)
        have hx_283 := z_add ex_283 rfl (zk (x := 3) 3 rfl) (by omega) (by omega)
        refine va_sld hx hb hXs hbl hbA hS (z_in rfl (by omega) (by omega)) dL_law_774 ?_
        refine lq_top (v := s3) (by rw [hs3]; exact congrArg xs (by rw [z_nat (x := x_283) rfl]; omega)) ?_
        refine lv_aload_n hx hb dL_law_775 rfl (lv_at hl 0 rfl) ?_
        refine lv_iload hx hb dL_law_776 (lv_at hl 4 rfl) ?_
        refine lv_iconst (v := 4) hx hb dL_law_778 (by decide) ?_
        refine lv_iadd hx hb dL_law_779 ?_
        refine lv_topi (fun x_284 ex_284 => ?_)
        have hx_284 := z_add ex_284 rfl (zk (x := 4) 4 rfl) (by omega) (by omega)
        refine va_sld hx hb hXs hbl hbA hS (z_in rfl (by omega) (by omega)) dL_law_780 ?_
        refine lq_top (v := s4) (by rw [hs4]; exact congrArg xs (by rw [z_nat (x := x_284) rfl]; omega)) ?_
        refine lv_aload_n hx hb dL_law_781 rfl (lv_at hl 0 rfl) ?_
        refine lv_iload hx hb dL_law_782 (lv_at hl 4 rfl) ?_
        refine lv_iconst (v := 5) hx hb dL_law_784 (by decide) ?_
        refine lv_iadd hx hb dL_law_785 ?_
        refine lv_topi (fun x_285 ex_285 => ?_)
        have hx_285 := z_add ex_285 rfl (zk (x := 5) 5 rfl) (by omega) (by omega)
        refine va_sld hx hb hXs hbl hbA hS (z_in rfl (by omega) (by omega)) dL_law_786 ?_
        refine lq_top (v := s5) (by rw [hs5]; exact congrArg xs (by rw [z_nat (x := x_285) rfl]; omega)) ?_
        have hFc := tw_free hF hS hA
        refine va_calli (va_runV (As := [.int s1, .int s2, .int s3, .int s4, .int s5]) (rest := []) ⟨hx, hb, hml, hown, hts⟩ (c_correct l dC dI ad av H.size a k τ ln y g u s1 s2 s3 s4 s5 hI ) (cwV 5 hts (gi_4 (im_law _ (List.mem_of_getElem? (i := 85) rfl)) (im_law _ (List.mem_of_getElem? (i := 86) rfl)) (im_law _ (List.mem_of_getElem? (i := 87) rfl)) (im_law _ (List.mem_of_getElem? (i := 3) rfl)) im_c_correct gd_c_correct) rfl rfl rfl (by decide +kernel) ⟨Nat.le_of_ble_eq_true rfl, Nat.le_of_ble_eq_true rfl⟩) ⟨pw_blind, tw_recv hK hT (fx_0 hX) (by decide) cl_e10 rfl, pw_use hT hK hFc hS hM⟩ rfl rfl hl.1 rfl (lv_room (Nat.le_of_ble_eq_true rfl)) dL_law_787 ⟨by show 200 + 4 * q + 1 ≤ 601024; omega, by show 60000 + 100 * q + 6 ≤ 7293034; omega⟩) hS (fun q _ h => hFc q h) hFc (fun r0 r_286 t H locs ht hvm hw hB hz1 hk1 hS => ?_)
        clear hvm hz1 hk1
        subst hw
        have hIo := hI
        obtain ⟨um_287, hum_287, ⟨tm_287, lm_287, ym_287, gm_287, hMo, hKM, hI, hT⟩⟩ := hB
        rw [ht] at hT
        have hF : ∀ q, tm_287 q ≠ 0 → s.heap.size ≤ q := fun q h => hFc q (hMo.2 q h)
        have hFo := hFo.kp hIo hKM (hum_287 1 (by decide)) (hum_287 2 (by decide)) (hum_287 9 (by decide))
        have hKM := hKM.to0
        have hJ := hJ.kp hKM hI.1
        have hW : IW (v 1) (v 2) (v 9) (ym_287 (a 89)) := by rw [hKM.fx hX (j := 89) (by decide) (by decide)]; exact hW
        have hTh : vb 38408 0 4800 (ym_287 (a 99)) := by rw [hKM.fx hX (j := 99) (by decide) (by decide)]; exact hTh
        have hX := hI.1
        have : um_287 2 = u 2 := hum_287 2 (by decide)
        have : um_287 9 = u 9 := hum_287 9 (by decide)
        refine lv_pop hx hb dL_law_790 rfl ?_
        refine lv_aload_n hx hb dL_law_791 rfl (lv_at hl 2 rfl) ?_
        refine lv_aload_n hx hb dL_law_792 rfl (lv_at hl 0 rfl) ?_
        refine lv_iload hx hb dL_law_793 (lv_at hl 4 rfl) ?_
        refine lv_iconst (v := 1) hx hb dL_law_795 (by decide) ?_
        refine lv_iadd hx hb dL_law_796 ?_
        refine lv_topi (fun x_288 ex_288 => ?_)
        have hx_288 := z_add ex_288 rfl (zk (x := 1) 1 rfl) (by omega) (by omega)
        refine va_sld hx hb hXs hbl hbA hS (z_in rfl (by omega) (by omega)) dL_law_797 ?_
        refine lq_top (v := s1) (by rw [hs1]; exact congrArg xs (by rw [z_nat (x := x_288) rfl]; omega)) ?_
        refine lv_aload_n hx hb dL_law_798 rfl (lv_at hl 0 rfl) ?_
        refine lv_iload hx hb dL_law_799 (lv_at hl 4 rfl) ?_
        refine lv_iconst (v := 2) hx hb dL_law_801 (by decide) ?_
        refine lv_iadd hx hb dL_law_802 ?_
        refine lv_topi (fun x_289 ex_289 => ?_)
        have hx_289 := z_add ex_289 rfl (zk (x := 2) 2 rfl) (by omega) (by omega)
        refine va_sld hx hb hXs hbl hbA hS (z_in rfl (by omega) (by omega)) dL_law_803 ?_
        refine lq_top (v := s2) (by rw [hs2]; exact congrArg xs (by rw [z_nat (x := x_289) rfl]; omega)) ?_
        refine lv_aload_n hx hb dL_law_804 rfl (lv_at hl 0 rfl) ?_
        refine lv_iload hx hb dL_law_805 (lv_at hl 4 rfl) ?_
        refine lv_iconst (v := 3) hx hb dL_law_807 (by decide) ?_
        refine lv_iadd hx hb dL_law_808 ?_
        refine lv_topi (fun x_290 ex_290 => ?_)
        have hx_290 := z_add ex_290 rfl (zk (x := 3) 3 rfl) (by omega) (by omega)
        refine va_sld hx hb hXs hbl hbA hS (z_in rfl (by omega) (by omega)) dL_law_809 ?_
        refine lq_top (v := s3) (by rw [hs3]; exact congrArg xs (by rw [z_nat (x := x_290) rfl]; omega)) ?_
        refine lv_aload_n hx hb dL_law_810 rfl (lv_at hl 0 rfl) ?_
        refine lv_iload hx hb dL_law_811 (lv_at hl 4 rfl) ?_
        refine lv_iconst (v := 4) hx hb dL_law_813 (by decide) ?_
        refine lv_iadd hx hb dL_law_814 ?_
        refine lv_topi (fun x_291 ex_291 => ?_)
        have hx_291 := z_add ex_291 rfl (zk (x := 4) 4 rfl) (by omega) (by omega)
        refine va_sld hx hb hXs hbl hbA hS (z_in rfl (by omega) (by omega)) dL_law_815 ?_
        refine lq_top (v := s4) (by rw [hs4]; exact congrArg xs (by rw [z_nat (x := x_291) rfl]; omega)) ?_
        refine lv_aload_n hx hb dL_law_816 rfl (lv_at hl 0 rfl) ?_
        refine lv_iload hx hb dL_law_817 (lv_at hl 4 rfl) ?_
        refine lv_iconst (v := 5) hx hb dL_law_819 (by decide) ?_
        refine lv_iadd hx hb dL_law_820 ?_
        refine lv_topi (fun x_292 ex_292 => ?_)
        have hx_292 := z_add ex_292 rfl (zk (x := 5) 5 rfl) (by omega) (by omega)
        refine va_sld hx hb hXs hbl hbA hS (z_in rfl (by omega) (by omega)) dL_law_821 ?_
        refine lq_top (v := s5) (by rw [hs5]; exact congrArg xs (by rw [z_nat (x := x_292) rfl]; omega)) ?_
        have hFc := tw_free hF hS hA
        refine va_calli (va_runV (As := [.int s1, .int s2, .int s3, .int s4, .int s5]) (rest := []) ⟨hx, hb, hml, hown, hts⟩ (m_correct l dC dI ad av H.size a k tm_287 lm_287 ym_287 gm_287 v s1 s2 s3 s4 s5 hJ hW) (cwV 5 hts (gi_4 (im_law _ (List.mem_of_getElem? (i := 88) rfl)) (im_law _ (List.mem_of_getElem? (i := 89) rfl)) (im_law _ (List.mem_of_getElem? (i := 90) rfl)) (im_law _ (List.mem_of_getElem? (i := 7) rfl)) im_m_correct gd_m_correct) rfl rfl rfl (by decide +kernel) ⟨Nat.le_of_ble_eq_true rfl, Nat.le_of_ble_eq_true rfl⟩) ⟨pw_blind, tw_recv hK hT (fx_50 hX) (by decide) cl_e60 rfl, pw_use hT hK hFc hS hM⟩ rfl rfl hl.1 rfl (lv_room (Nat.le_of_ble_eq_true rfl)) dL_law_822 ⟨by show 200 + 4 * q + 1 + 0 ≤ 601024; omega, by show 60000 + 100 * q + 6 + 0 ≤ 7293034; omega⟩) hS (fun q _ h => hFc q h) hFc (fun r0 r_293 t H locs ht hvm hw hB hz1 hk1 hS => ?_)
        clear hvm hz1 hk1
        subst hw
        have hIo := hI
        obtain ⟨um_294, ym_294, gm_294, hum_294, hgm_294, hggm_294, hJ, hT⟩ := hB
        rw [ht] at hT
        have hFo := hFo.m hIo hgm_294 (by decide) (hggm_294 (a 10) (by rw [fx_10 hX]; decide))
        have hI := hI.ag hgm_294 (by decide)
        have hI := hI.agg hggm_294
        have hW : IW (um_294 1) (um_294 2) (um_294 9) (ym_294 (a 89)) := by rw [hgm_294.at (fx_89 hX) (by decide)]; exact iw_u hW (hum_294 1 (by decide)) (hum_294 2 (by decide)) (hum_294 9 (by decide))
        have hTh : vb 38408 0 4800 (ym_294 (a 99)) := by rw [hgm_294.at (fx_99 hX) (by decide)]; exact hTh
        have : um_294 2 = v 2 := hum_294 2 (by decide)
        have : um_294 9 = v 9 := hum_294 9 (by decide)
        have : um_294 3 = v 3 := hum_294 3 (by decide)
        have : um_294 10 = v 10 := hum_294 10 (by decide)
        refine lv_pop hx hb dL_law_825 rfl ?_
        refine lv_goto (tgt := 1360) hx hb dL_law_826 (by decide) ?_
        obtain ⟨x_295, ex_295⟩ : ∃ y : Int32, y = i4 + Int32.ofInt 10 := ⟨_, rfl⟩
        have hx_295 := z_add ex_295 rfl (zk (x := Int32.ofInt 10) 10 rfl) (by omega) (by omega)
        refine lv_iinc (v := x_295) (lv' := [(4, .int x_295), (0, .ref b), (1, .ref (a 0)), (2, .ref (a 50)), (3, .ref (a 49))]) hx hb dL_law_1360 hl (k := 4) rfl ex_295.symm (by decide) rfl (fun ls hl => ?_)
        refine lv_goto (tgt := 23) hx hb dL_law_1363 (by decide) ?_
        refine W.widen (k := 200 + 4 * (q + 1)) (n := 60000 + 100 * (q + 1)) (by omega) (by omega) ?_
        exact ih (q + 1) x_295 tm_287 lm_287 ym_294 gm_294 um_287 um_294 H _ ls (by omega) hF hI hJ hW hTh hFo (by omega) (by omega) (by omega) (by omega) (by omega) hT hS (lv_sub hl [1, 2, 3, 4, 0] rfl)
      · refine lq_top (v := 15) t_5 ?_
        have nt_5 := z_eq rfl (zk (x := 15) 15 rfl) t_5
        refine lv_tableIn (tgt := 829) hx hb dL_law_40 (by decide) (by decide) (off := 789) (by decide) (by decide) ?_
        refine lv_aload_n hx hb dL_law_829 rfl (lv_at hl 1 rfl) ?_
        refine lv_aload_n hx hb dL_law_830 rfl (lv_at hl 0 rfl) ?_
        refine lv_iload hx hb dL_law_831 (lv_at hl 4 rfl) ?_
        refine lv_iconst (v := 1) hx hb dL_law_833 (by decide) ?_
        refine lv_iadd hx hb dL_law_834 ?_
        refine lv_topi (fun x_296 ex_296 => ?_)
        have hx_296 := z_add ex_296 rfl (zk (x := 1) 1 rfl) (by omega) (by omega)
        refine va_sld hx hb hXs hbl hbA hS (z_in rfl (by omega) (by omega)) dL_law_835 ?_
        refine lq_top (v := s1) (by rw [hs1]; exact congrArg xs (by rw [z_nat (x := x_296) rfl]; omega)) ?_
        refine lv_aload_n hx hb dL_law_836 rfl (lv_at hl 0 rfl) ?_
        refine lv_iload hx hb dL_law_837 (lv_at hl 4 rfl) ?_
        refine lv_iconst (v := 2) hx hb dL_law_839 (by decide) ?_
        refine lv_iadd hx hb dL_law_840 ?_
        refine lv_topi (fun x_297 ex_297 => ?_)
        have hx_297 := z_add ex_297 rfl (zk (x := 2) 2 rfl) (by omega) (by omega)
        refine va_sld hx hb hXs hbl hbA hS (z_in rfl (by omega) (by omega)) dL_law_841 ?_
        refine lq_top (v := s2) (by rw [hs2]; exact congrArg xs (by rw [z_nat (x := x_297) rfl]; omega)) ?_
        have hFc := tw_free hF hS hA
        refine va_calli (va_runV (As := [.int s1, .int s2]) (rest := []) ⟨hx, hb, hml, hown, hts⟩ (c_undo l dC dI ad av H.size a k τ ln y g u s1 s2 hI ) (cwV 2 hts (gi_4 (im_law _ (List.mem_of_getElem? (i := 91) rfl)) (im_law _ (List.mem_of_getElem? (i := 92) rfl)) (im_law _ (List.mem_of_getElem? (i := 93) rfl)) (im_law _ (List.mem_of_getElem? (i := 3) rfl)) im_c_undo gd_c_undo) rfl rfl rfl (by decide +kernel) ⟨Nat.le_of_ble_eq_true rfl, Nat.le_of_ble_eq_true rfl⟩) ⟨pw_blind, tw_recv hK hT (fx_0 hX) (by decide) cl_e10 rfl, pw_use hT hK hFc hS hM⟩ rfl rfl hl.1 rfl (lv_room (Nat.le_of_ble_eq_true rfl)) dL_law_842 ⟨by show 200 + 4 * q + 0 ≤ 601024; omega, by show 60000 + 100 * q + 0 ≤ 7293034; omega⟩) hS (fun q _ h => hFc q h) hFc (fun r0 r_298 t H locs ht hvm hw hB hz1 hk1 hS => ?_)
        clear hvm hz1 hk1
        subst hw
        have hIo := hI
        rcases hB with ⟨um_299, hre, hum_299, ⟨tm_299, lm_299, ym_299, gm_299, hMo, hKM, hI, hT⟩⟩ | ⟨um_300, hre, hum_300, ⟨tm_300, lm_300, ym_300, gm_300, hMo, hKM, hI, hT⟩⟩
        · refine lq_top (v := 1) hre ?_
          rw [ht] at hT
          have hF : ∀ q, tm_299 q ≠ 0 → s.heap.size ≤ q := fun q h => hFc q (hMo.2 q h)
          have hFo := hFo.kp hIo hKM (hum_299 1 (by decide)) (hum_299 2 (by decide)) (hum_299 9 (by decide))
          have hKM := hKM.to0
          have hJ := hJ.kp hKM hI.1
          have hW : IW (v 1) (v 2) (v 9) (ym_299 (a 89)) := by rw [hKM.fx hX (j := 89) (by decide) (by decide)]; exact hW
          have hTh : vb 38408 0 4800 (ym_299 (a 99)) := by rw [hKM.fx hX (j := 99) (by decide) (by decide)]; exact hTh
          have hX := hI.1
          have : um_299 2 = u 2 := hum_299 2 (by decide)
          have : um_299 9 = u 9 := hum_299 9 (by decide)
          refine lv_pop hx hb dL_law_845 rfl ?_
          refine lv_aload_n hx hb dL_law_846 rfl (lv_at hl 2 rfl) ?_
          refine lv_aload_n hx hb dL_law_847 rfl (lv_at hl 0 rfl) ?_
          refine lv_iload hx hb dL_law_848 (lv_at hl 4 rfl) ?_
          refine lv_iconst (v := 1) hx hb dL_law_850 (by decide) ?_
          refine lv_iadd hx hb dL_law_851 ?_
          refine lv_topi (fun x_301 ex_301 => ?_)
          have hx_301 := z_add ex_301 rfl (zk (x := 1) 1 rfl) (by omega) (by omega)
          refine va_sld hx hb hXs hbl hbA hS (z_in rfl (by omega) (by omega)) dL_law_852 ?_
          refine lq_top (v := s1) (by rw [hs1]; exact congrArg xs (by rw [z_nat (x := x_301) rfl]; omega)) ?_
          refine lv_aload_n hx hb dL_law_853 rfl (lv_at hl 0 rfl) ?_
          refine lv_iload hx hb dL_law_854 (lv_at hl 4 rfl) ?_
          refine lv_iconst (v := 2) hx hb dL_law_856 (by decide) ?_
          refine lv_iadd hx hb dL_law_857 ?_
          refine lv_topi (fun x_302 ex_302 => ?_)
          have hx_302 := z_add ex_302 rfl (zk (x := 2) 2 rfl) (by omega) (by omega)
          refine va_sld hx hb hXs hbl hbA hS (z_in rfl (by omega) (by omega)) dL_law_858 ?_
          refine lq_top (v := s2) (by rw [hs2]; exact congrArg xs (by rw [z_nat (x := x_302) rfl]; omega)) ?_
          have hFc := tw_free hF hS hA
          refine va_calli (va_runV (As := [.int s1, .int s2]) (rest := []) ⟨hx, hb, hml, hown, hts⟩ (m_undo l dC dI ad av H.size a k tm_299 lm_299 ym_299 gm_299 v s1 s2 hJ hW) (cwV 2 hts (gi_4 (im_law _ (List.mem_of_getElem? (i := 94) rfl)) (im_law _ (List.mem_of_getElem? (i := 95) rfl)) (im_law _ (List.mem_of_getElem? (i := 96) rfl)) (im_law _ (List.mem_of_getElem? (i := 7) rfl)) im_m_undo gd_m_undo) rfl rfl rfl (by decide +kernel) ⟨Nat.le_of_ble_eq_true rfl, Nat.le_of_ble_eq_true rfl⟩) ⟨pw_blind, tw_recv hK hT (fx_50 hX) (by decide) cl_e60 rfl, pw_use hT hK hFc hS hM⟩ rfl rfl hl.1 rfl (lv_room (Nat.le_of_ble_eq_true rfl)) dL_law_859 ⟨by show 200 + 4 * q + 0 + 0 ≤ 601024; omega, by show 60000 + 100 * q + 0 + 0 ≤ 7293034; omega⟩) hS (fun q _ h => hFc q h) hFc (fun r0 r_303 t H locs ht hvm hw hB hz1 hk1 hS => ?_)
          clear hvm hz1 hk1
          subst hw
          have hIo := hI
          rcases hB with ⟨ym_304, gm_304, hre, hgm_304, hggm_304, hJ, hT⟩ | ⟨ym_305, gm_305, hre, hgm_305, hggm_305, hJ, hT⟩
          · refine lq_top (v := 1) hre ?_
            rw [ht] at hT
            have hFo := hFo.m hIo hgm_304 (by decide) (hggm_304 (a 10) (by rw [fx_10 hX]; decide))
            have hI := hI.ag hgm_304 (by decide)
            have hI := hI.agg hggm_304
            have hW : IW (v 1) (v 2) (v 9) (ym_304 (a 89)) := by rw [hgm_304.at (fx_89 hX) (by decide)]; exact hW
            have hTh : vb 38408 0 4800 (ym_304 (a 99)) := by rw [hgm_304.at (fx_99 hX) (by decide)]; exact hTh
            refine lv_pop hx hb dL_law_862 rfl ?_
            refine lv_goto (tgt := 1360) hx hb dL_law_863 (by decide) ?_
            obtain ⟨x_306, ex_306⟩ : ∃ y : Int32, y = i4 + Int32.ofInt 10 := ⟨_, rfl⟩
            have hx_306 := z_add ex_306 rfl (zk (x := Int32.ofInt 10) 10 rfl) (by omega) (by omega)
            refine lv_iinc (v := x_306) (lv' := [(4, .int x_306), (0, .ref b), (1, .ref (a 0)), (2, .ref (a 50)), (3, .ref (a 49))]) hx hb dL_law_1360 hl (k := 4) rfl ex_306.symm (by decide) rfl (fun ls hl => ?_)
            refine lv_goto (tgt := 23) hx hb dL_law_1363 (by decide) ?_
            refine W.widen (k := 200 + 4 * (q + 1)) (n := 60000 + 100 * (q + 1)) (by omega) (by omega) ?_
            exact ih (q + 1) x_306 tm_299 lm_299 ym_304 gm_304 um_299 v H _ ls (by omega) hF hI hJ hW hTh hFo (by omega) (by omega) (by omega) (by omega) (by omega) hT hS (lv_sub hl [1, 2, 3, 4, 0] rfl)
          · refine lq_top (v := 0) hre ?_
            rw [ht] at hT
            have hFo := hFo.m hIo hgm_305 (by decide) (hggm_305 (a 10) (by rw [fx_10 hX]; decide))
            have hI := hI.ag hgm_305 (by decide)
            have hI := hI.agg hggm_305
            have hW : IW (v 1) (v 2) (v 9) (ym_305 (a 89)) := by rw [hgm_305.at (fx_89 hX) (by decide)]; exact hW
            have hTh : vb 38408 0 4800 (ym_305 (a 99)) := by rw [hgm_305.at (fx_99 hX) (by decide)]; exact hTh
            refine lv_pop hx hb dL_law_862 rfl ?_
            refine lv_goto (tgt := 1360) hx hb dL_law_863 (by decide) ?_
            obtain ⟨x_307, ex_307⟩ : ∃ y : Int32, y = i4 + Int32.ofInt 10 := ⟨_, rfl⟩
            have hx_307 := z_add ex_307 rfl (zk (x := Int32.ofInt 10) 10 rfl) (by omega) (by omega)
            refine lv_iinc (v := x_307) (lv' := [(4, .int x_307), (0, .ref b), (1, .ref (a 0)), (2, .ref (a 50)), (3, .ref (a 49))]) hx hb dL_law_1360 hl (k := 4) rfl ex_307.symm (by decide) rfl (fun ls hl => ?_)
            refine lv_goto (tgt := 23) hx hb dL_law_1363 (by decide) ?_
            refine W.widen (k := 200 + 4 * (q + 1)) (n := 60000 + 100 * (q + 1)) (by omega) (by omega) ?_
            exact ih (q + 1) x_307 tm_299 lm_299 ym_305 gm_305 um_299 v H _ ls (by omega) hF hI hJ hW hTh hFo (by omega) (by omega) (by omega) (by omega) (by omega) hT hS (lv_sub hl [1, 2, 3, 4, 0] rfl)
        · refine lq_top (v := 0) hre ?_
          rw [ht] at hT
          have hF : ∀ q, tm_300 q ≠ 0 → s.heap.size ≤ q := fun q h => hFc q (hMo.2 q h)
          have hFo := hFo.kp hIo hKM (hum_300 1 (by decide)) (hum_300 2 (by decide)) (hum_300 9 (by decide))
          have hKM := hKM.to0
          have hJ := hJ.kp hKM hI.1
          have hW : IW (v 1) (v 2) (v 9) (ym_300 (a 89)) := by rw [hKM.fx hX (j := 89) (by decide) (by decide)]; exact hW
          have hTh : vb 38408 0 4800 (ym_300 (a 99)) := by rw [hKM.fx hX (j := 99) (by decide) (by decide)]; exact hTh
          have hX := hI.1
          have : um_300 2 = u 2 := hum_300 2 (by decide)
          have : um_300 9 = u 9 := hum_300 9 (by decide)
          refine lv_pop hx hb dL_law_845 rfl ?_
          refine lv_aload_n hx hb dL_law_846 rfl (lv_at hl 2 rfl) ?_
          refine lv_aload_n hx hb dL_law_847 rfl (lv_at hl 0 rfl) ?_
          refine lv_iload hx hb dL_law_848 (lv_at hl 4 rfl) ?_
          refine lv_iconst (v := 1) hx hb dL_law_850 (by decide) ?_
          refine lv_iadd hx hb dL_law_851 ?_
          refine lv_topi (fun x_308 ex_308 => ?_)
          have hx_308 := z_add ex_308 rfl (zk (x := 1) 1 rfl) (by omega) (by omega)
          refine va_sld hx hb hXs hbl hbA hS (z_in rfl (by omega) (by omega)) dL_law_852 ?_
          refine lq_top (v := s1) (by rw [hs1]; exact congrArg xs (by rw [z_nat (x := x_308) rfl]; omega)) ?_
          refine lv_aload_n hx hb dL_law_853 rfl (lv_at hl 0 rfl) ?_
          refine lv_iload hx hb dL_law_854 (lv_at hl 4 rfl) ?_
          refine lv_iconst (v := 2) hx hb dL_law_856 (by decide) ?_
          refine lv_iadd hx hb dL_law_857 ?_
          refine lv_topi (fun x_309 ex_309 => ?_)
          have hx_309 := z_add ex_309 rfl (zk (x := 2) 2 rfl) (by omega) (by omega)
          refine va_sld hx hb hXs hbl hbA hS (z_in rfl (by omega) (by omega)) dL_law_858 ?_
          refine lq_top (v := s2) (by rw [hs2]; exact congrArg xs (by rw [z_nat (x := x_309) rfl]; omega)) ?_
          have hFc := tw_free hF hS hA
          refine va_calli (va_runV (As := [.int s1, .int s2]) (rest := []) ⟨hx, hb, hml, hown, hts⟩ (m_undo l dC dI ad av H.size a k tm_300 lm_300 ym_300 gm_300 v s1 s2 hJ hW) (cwV 2 hts (gi_4 (im_law _ (List.mem_of_getElem? (i := 94) rfl)) (im_law _ (List.mem_of_getElem? (i := 95) rfl)) (im_law _ (List.mem_of_getElem? (i := 96) rfl)) (im_law _ (List.mem_of_getElem? (i := 7) rfl)) im_m_undo gd_m_undo) rfl rfl rfl (by decide +kernel) ⟨Nat.le_of_ble_eq_true rfl, Nat.le_of_ble_eq_true rfl⟩) ⟨pw_blind, tw_recv hK hT (fx_50 hX) (by decide) cl_e60 rfl, pw_use hT hK hFc hS hM⟩ rfl rfl hl.1 rfl (lv_room (Nat.le_of_ble_eq_true rfl)) dL_law_859 ⟨by show 200 + 4 * q + 0 + 0 ≤ 601024; omega, by show 60000 + 100 * q + 0 + 0 ≤ 7293034; omega⟩) hS (fun q _ h => hFc q h) hFc (fun r0 r_310 t H locs ht hvm hw hB hz1 hk1 hS => ?_)
          clear hvm hz1 hk1
          subst hw
          have hIo := hI
          rcases hB with ⟨ym_311, gm_311, hre, hgm_311, hggm_311, hJ, hT⟩ | ⟨ym_312, gm_312, hre, hgm_312, hggm_312, hJ, hT⟩
          · refine lq_top (v := 1) hre ?_
            rw [ht] at hT
            have hFo := hFo.m hIo hgm_311 (by decide) (hggm_311 (a 10) (by rw [fx_10 hX]; decide))
            have hI := hI.ag hgm_311 (by decide)
            have hI := hI.agg hggm_311
            have hW : IW (v 1) (v 2) (v 9) (ym_311 (a 89)) := by rw [hgm_311.at (fx_89 hX) (by decide)]; exact hW
            have hTh : vb 38408 0 4800 (ym_311 (a 99)) := by rw [hgm_311.at (fx_99 hX) (by decide)]; exact hTh
            refine lv_pop hx hb dL_law_862 rfl ?_
            refine lv_goto (tgt := 1360) hx hb dL_law_863 (by decide) ?_
            obtain ⟨x_313, ex_313⟩ : ∃ y : Int32, y = i4 + Int32.ofInt 10 := ⟨_, rfl⟩
            have hx_313 := z_add ex_313 rfl (zk (x := Int32.ofInt 10) 10 rfl) (by omega) (by omega)
            refine lv_iinc (v := x_313) (lv' := [(4, .int x_313), (0, .ref b), (1, .ref (a 0)), (2, .ref (a 50)), (3, .ref (a 49))]) hx hb dL_law_1360 hl (k := 4) rfl ex_313.symm (by decide) rfl (fun ls hl => ?_)
            refine lv_goto (tgt := 23) hx hb dL_law_1363 (by decide) ?_
            refine W.widen (k := 200 + 4 * (q + 1)) (n := 60000 + 100 * (q + 1)) (by omega) (by omega) ?_
            exact ih (q + 1) x_313 tm_300 lm_300 ym_311 gm_311 um_300 v H _ ls (by omega) hF hI hJ hW hTh hFo (by omega) (by omega) (by omega) (by omega) (by omega) hT hS (lv_sub hl [1, 2, 3, 4, 0] rfl)
          · refine lq_top (v := 0) hre ?_
            rw [ht] at hT
            have hFo := hFo.m hIo hgm_312 (by decide) (hggm_312 (a 10) (by rw [fx_10 hX]; decide))
            have hI := hI.ag hgm_312 (by decide)
            have hI := hI.agg hggm_312
            have hW : IW (v 1) (v 2) (v 9) (ym_312 (a 89)) := by rw [hgm_312.at (fx_89 hX) (by decide)]; exact hW
            have hTh : vb 38408 0 4800 (ym_312 (a 99)) := by rw [hgm_312.at (fx_99 hX) (by decide)]; exact hTh
            refine lv_pop hx hb dL_law_862 rfl ?_
            refine lv_goto (tgt := 1360) hx hb dL_law_863 (by decide) ?_
            obtain ⟨x_314, ex_314⟩ : ∃ y : Int32, y = i4 + Int32.ofInt 10 := ⟨_, rfl⟩
            have hx_314 := z_add ex_314 rfl (zk (x := Int32.ofInt 10) 10 rfl) (by omega) (by omega)
            refine lv_iinc (v := x_314) (lv' := [(4, .int x_314), (0, .ref b), (1, .ref (a 0)), (2, .ref (a 50)), (3, .ref (a 49))]) hx hb dL_law_1360 hl (k := 4) rfl ex_314.symm (by decide) rfl (fun ls hl => ?_)
            refine lv_goto (tgt := 23) hx hb dL_law_1363 (by decide) ?_
            refine W.widen (k := 200 + 4 * (q + 1)) (n := 60000 + 100 * (q + 1)) (by omega) (by omega) ?_
            exact ih (q + 1) x_314 tm_300 lm_300 ym_312 gm_312 um_300 v H _ ls (by omega) hF hI hJ hW hTh hFo (by omega) (by omega) (by omega) (by omega) (by omega) hT hS (lv_sub hl [1, 2, 3, 4, 0] rfl)
      · refine lq_top (v := 16) t_5 ?_
        have nt_5 := z_eq rfl (zk (x := 16) 16 rfl) t_5
        refine lv_tableIn (tgt := 866) hx hb dL_law_40 (by decide) (by decide) (off := 826) (by decide) (by decide) ?_
        refine lv_aload_n hx hb dL_law_866 rfl (lv_at hl 1 rfl) ?_
        refine lv_aload_n hx hb dL_law_867 rfl (lv_at hl 0 rfl) ?_
        refine lv_iload hx hb dL_law_868 (lv_at hl 4 rfl) ?_
        refine lv_iconst (v := 1) hx hb dL_law_870 (by decide) ?_
        refine lv_iadd hx hb dL_law_871 ?_
        refine lv_topi (fun x_315 ex_315 => ?_)
        have hx_315 := z_add ex_315 rfl (zk (x := 1) 1 rfl) (by omega) (by omega)
        refine va_sld hx hb hXs hbl hbA hS (z_in rfl (by omega) (by omega)) dL_law_872 ?_
        refine lq_top (v := s1) (by rw [hs1]; exact congrArg xs (by rw [z_nat (x := x_315) rfl]; omega)) ?_
        have hFc := tw_free hF hS hA
        refine va_calli (va_runV (As := [.int s1]) (rest := []) ⟨hx, hb, hml, hown, hts⟩ (c_as l dC dI ad av H.size a k τ ln y g u s1 hI ) (cwV 1 hts (gi_4 (im_law _ (List.mem_of_getElem? (i := 97) rfl)) (im_law _ (List.mem_of_getElem? (i := 98) rfl)) (im_law _ (List.mem_of_getElem? (i := 99) rfl)) (im_law _ (List.mem_of_getElem? (i := 3) rfl)) im_c_as gd_c_as) rfl rfl rfl (by decide +kernel) ⟨Nat.le_of_ble_eq_true rfl, Nat.le_of_ble_eq_true rfl⟩) ⟨pw_blind, tw_recv hK hT (fx_0 hX) (by decide) cl_e10 rfl, pw_use hT hK hFc hS hM⟩ rfl rfl hl.1 rfl (lv_room (Nat.le_of_ble_eq_true rfl)) dL_law_873 ⟨by show 200 + 4 * q + 0 ≤ 601024; omega, by show 60000 + 100 * q + 0 ≤ 7293034; omega⟩) hS (fun q _ h => hFc q h) hFc (fun r0 r_316 t H locs ht hvm hw hB hz1 hk1 hS => ?_)
        clear hvm hz1 hk1
        subst hw
        have hIo := hI
        rcases hB with ⟨um_317, hre, hum_317, hf_318, ⟨tm_317, lm_317, ym_317, gm_317, hMo, hKM, hI, hT⟩⟩ | ⟨um_319, hum_319, hf_320, hf_321, hf_322, ⟨tm_319, lm_319, ym_319, gm_319, hMo, hKM, hI, hT⟩⟩
        · refine lq_top (v := (-1)) hre ?_
          rw [ht] at hT
          have hF : ∀ q, tm_317 q ≠ 0 → s.heap.size ≤ q := fun q h => hFc q (hMo.2 q h)
          have hFo := hFo.kp hIo hKM (hum_317 1 (by decide)) (hum_317 2 (by decide)) (hum_317 9 (by decide))
          have hKM := hKM.to0
          have hJ := hJ.kp hKM hI.1
          have hW : IW (v 1) (v 2) (v 9) (ym_317 (a 89)) := by rw [hKM.fx hX (j := 89) (by decide) (by decide)]; exact hW
          have hTh : vb 38408 0 4800 (ym_317 (a 99)) := by rw [hKM.fx hX (j := 99) (by decide) (by decide)]; exact hTh
          have hX := hI.1
          have : um_317 2 = u 2 := hum_317 2 (by decide)
          have : um_317 9 = u 9 := hum_317 9 (by decide)
          refine lv_pop hx hb dL_law_876 rfl ?_
          refine lv_aload_n hx hb dL_law_877 rfl (lv_at hl 2 rfl) ?_
          refine lv_aload_n hx hb dL_law_878 rfl (lv_at hl 0 rfl) ?_
          refine lv_iload hx hb dL_law_879 (lv_at hl 4 rfl) ?_
          refine lv_iconst (v := 1) hx hb dL_law_881 (by decide) ?_
          refine lv_iadd hx hb dL_law_882 ?_
          refine lv_topi (fun x_323 ex_323 => ?_)
          have hx_323 := z_add ex_323 rfl (zk (x := 1) 1 rfl) (by omega) (by omega)
          refine va_sld hx hb hXs hbl hbA hS (z_in rfl (by omega) (by omega)) dL_law_883 ?_
          refine lq_top (v := s1) (by rw [hs1]; exact congrArg xs (by rw [z_nat (x := x_323) rfl]; omega)) ?_
          have hFc := tw_free hF hS hA
          refine va_calli (va_runV (As := [.int s1]) (rest := []) ⟨hx, hb, hml, hown, hts⟩ (m_as l dC dI ad av H.size a k tm_317 lm_317 ym_317 gm_317 v s1 hJ hW) (cwV 1 hts (gi_4 (im_law _ (List.mem_of_getElem? (i := 100) rfl)) (im_law _ (List.mem_of_getElem? (i := 101) rfl)) (im_law _ (List.mem_of_getElem? (i := 102) rfl)) (im_law _ (List.mem_of_getElem? (i := 7) rfl)) im_m_as gd_m_as) rfl rfl rfl (by decide +kernel) ⟨Nat.le_of_ble_eq_true rfl, Nat.le_of_ble_eq_true rfl⟩) ⟨pw_blind, tw_recv hK hT (fx_50 hX) (by decide) cl_e60 rfl, pw_use hT hK hFc hS hM⟩ rfl rfl hl.1 rfl (lv_room (Nat.le_of_ble_eq_true rfl)) dL_law_884 ⟨by show 200 + 4 * q + 0 + 0 ≤ 601024; omega, by show 60000 + 100 * q + 0 + 0 ≤ 7293034; omega⟩) hS (fun q _ h => hFc q h) hFc (fun r0 r_324 t H locs ht hvm hw hB hz1 hk1 hS => ?_)
          clear hvm hz1 hk1
          subst hw
          have hIo := hI
          rcases hB with ⟨um_325, ym_325, gm_325, hre, hum_325, hgm_325, hggm_325, hJ, hf_326, hf_327, hT⟩ | ⟨um_328, ym_328, gm_328, hum_328, hgm_328, hggm_328, hJ, hf_329, hf_330, hf_331, hT⟩
          · refine lq_top (v := (-1)) hre ?_
            rw [ht] at hT
            have hFo := hFo.m hIo hgm_325 (by decide) (hggm_325 (a 10) (by rw [fx_10 hX]; decide))
            have hI := hI.ag hgm_325 (by decide)
            have hI := hI.agg hggm_325
            have hW : IW (um_325 1) (um_325 2) (um_325 9) (ym_325 (a 89)) := by rw [hgm_325.at (fx_89 hX) (by decide)]; exact iw_u hW (hum_325 1 (by decide)) (hum_325 2 (by decide)) (hum_325 9 (by decide))
            have hTh : vb 38408 0 4800 (ym_325 (a 99)) := by rw [hgm_325.at (fx_99 hX) (by decide)]; exact hTh
            have : um_325 2 = v 2 := hum_325 2 (by decide)
            have : um_325 9 = v 9 := hum_325 9 (by decide)
            have : um_325 3 = v 3 := hum_325 3 (by decide)
            have : um_325 10 = v 10 := hum_325 10 (by decide)
            refine lv_pop hx hb dL_law_887 rfl ?_
            refine lv_goto (tgt := 1360) hx hb dL_law_888 (by decide) ?_
            obtain ⟨x_332, ex_332⟩ : ∃ y : Int32, y = i4 + Int32.ofInt 10 := ⟨_, rfl⟩
            have hx_332 := z_add ex_332 rfl (zk (x := Int32.ofInt 10) 10 rfl) (by omega) (by omega)
            refine lv_iinc (v := x_332) (lv' := [(4, .int x_332), (0, .ref b), (1, .ref (a 0)), (2, .ref (a 50)), (3, .ref (a 49))]) hx hb dL_law_1360 hl (k := 4) rfl ex_332.symm (by decide) rfl (fun ls hl => ?_)
            refine lv_goto (tgt := 23) hx hb dL_law_1363 (by decide) ?_
            refine W.widen (k := 200 + 4 * (q + 1)) (n := 60000 + 100 * (q + 1)) (by omega) (by omega) ?_
            exact ih (q + 1) x_332 tm_317 lm_317 ym_325 gm_325 um_317 um_325 H _ ls (by omega) hF hI hJ hW hTh hFo (by omega) (by omega) (by omega) (by omega) (by omega) hT hS (lv_sub hl [1, 2, 3, 4, 0] rfl)
          · rw [ht] at hT
            have hFo := hFo.m hIo hgm_328 (by decide) (hggm_328 (a 10) (by rw [fx_10 hX]; decide))
            have hI := hI.ag hgm_328 (by decide)
            have hI := hI.agg hggm_328
            have hW : IW (um_328 1) (um_328 2) (um_328 9) (ym_328 (a 89)) := by rw [hgm_328.at (fx_89 hX) (by decide)]; exact iw_u hW (hum_328 1 (by decide)) (hum_328 2 (by decide)) (hum_328 9 (by decide))
            have hTh : vb 38408 0 4800 (ym_328 (a 99)) := by rw [hgm_328.at (fx_99 hX) (by decide)]; exact hTh
            have : um_328 2 = v 2 := hum_328 2 (by decide)
            have : um_328 9 = v 9 := hum_328 9 (by decide)
            have : um_328 3 = v 3 := hum_328 3 (by decide)
            have : um_328 10 = v 10 := hum_328 10 (by decide)
            refine lv_pop hx hb dL_law_887 rfl ?_
            refine lv_goto (tgt := 1360) hx hb dL_law_888 (by decide) ?_
            obtain ⟨x_333, ex_333⟩ : ∃ y : Int32, y = i4 + Int32.ofInt 10 := ⟨_, rfl⟩
            have hx_333 := z_add ex_333 rfl (zk (x := Int32.ofInt 10) 10 rfl) (by omega) (by omega)
            refine lv_iinc (v := x_333) (lv' := [(4, .int x_333), (0, .ref b), (1, .ref (a 0)), (2, .ref (a 50)), (3, .ref (a 49))]) hx hb dL_law_1360 hl (k := 4) rfl ex_333.symm (by decide) rfl (fun ls hl => ?_)
            refine lv_goto (tgt := 23) hx hb dL_law_1363 (by decide) ?_
            refine W.widen (k := 200 + 4 * (q + 1)) (n := 60000 + 100 * (q + 1)) (by omega) (by omega) ?_
            exact ih (q + 1) x_333 tm_317 lm_317 ym_328 gm_328 um_317 um_328 H _ ls (by omega) hF hI hJ hW hTh hFo (by omega) (by omega) (by omega) (by omega) (by omega) hT hS (lv_sub hl [1, 2, 3, 4, 0] rfl)
        · rw [ht] at hT
          have hF : ∀ q, tm_319 q ≠ 0 → s.heap.size ≤ q := fun q h => hFc q (hMo.2 q h)
          have hFo := hFo.kp hIo hKM (hum_319 1 (by decide)) (hum_319 2 (by decide)) (hum_319 9 (by decide))
          have hKM := hKM.to0
          have hJ := hJ.kp hKM hI.1
          have hW : IW (v 1) (v 2) (v 9) (ym_319 (a 89)) := by rw [hKM.fx hX (j := 89) (by decide) (by decide)]; exact hW
          have hTh : vb 38408 0 4800 (ym_319 (a 99)) := by rw [hKM.fx hX (j := 99) (by decide) (by decide)]; exact hTh
          have hX := hI.1
          have : um_319 2 = u 2 := hum_319 2 (by decide)
          have : um_319 9 = u 9 := hum_319 9 (by decide)
          refine lv_pop hx hb dL_law_876 rfl ?_
          refine lv_aload_n hx hb dL_law_877 rfl (lv_at hl 2 rfl) ?_
          refine lv_aload_n hx hb dL_law_878 rfl (lv_at hl 0 rfl) ?_
          refine lv_iload hx hb dL_law_879 (lv_at hl 4 rfl) ?_
          refine lv_iconst (v := 1) hx hb dL_law_881 (by decide) ?_
          refine lv_iadd hx hb dL_law_882 ?_
          refine lv_topi (fun x_334 ex_334 => ?_)
          have hx_334 := z_add ex_334 rfl (zk (x := 1) 1 rfl) (by omega) (by omega)
          refine va_sld hx hb hXs hbl hbA hS (z_in rfl (by omega) (by omega)) dL_law_883 ?_
          refine lq_top (v := s1) (by rw [hs1]; exact congrArg xs (by rw [z_nat (x := x_334) rfl]; omega)) ?_
          have hFc := tw_free hF hS hA
          refine va_calli (va_runV (As := [.int s1]) (rest := []) ⟨hx, hb, hml, hown, hts⟩ (m_as l dC dI ad av H.size a k tm_319 lm_319 ym_319 gm_319 v s1 hJ hW) (cwV 1 hts (gi_4 (im_law _ (List.mem_of_getElem? (i := 100) rfl)) (im_law _ (List.mem_of_getElem? (i := 101) rfl)) (im_law _ (List.mem_of_getElem? (i := 102) rfl)) (im_law _ (List.mem_of_getElem? (i := 7) rfl)) im_m_as gd_m_as) rfl rfl rfl (by decide +kernel) ⟨Nat.le_of_ble_eq_true rfl, Nat.le_of_ble_eq_true rfl⟩) ⟨pw_blind, tw_recv hK hT (fx_50 hX) (by decide) cl_e60 rfl, pw_use hT hK hFc hS hM⟩ rfl rfl hl.1 rfl (lv_room (Nat.le_of_ble_eq_true rfl)) dL_law_884 ⟨by show 200 + 4 * q + 0 + 0 ≤ 601024; omega, by show 60000 + 100 * q + 0 + 0 ≤ 7293034; omega⟩) hS (fun q _ h => hFc q h) hFc (fun r0 r_335 t H locs ht hvm hw hB hz1 hk1 hS => ?_)
          clear hvm hz1 hk1
          subst hw
          have hIo := hI
          rcases hB with ⟨um_336, ym_336, gm_336, hre, hum_336, hgm_336, hggm_336, hJ, hf_337, hf_338, hT⟩ | ⟨um_339, ym_339, gm_339, hum_339, hgm_339, hggm_339, hJ, hf_340, hf_341, hf_342, hT⟩
          · refine lq_top (v := (-1)) hre ?_
            rw [ht] at hT
            have hFo := hFo.m hIo hgm_336 (by decide) (hggm_336 (a 10) (by rw [fx_10 hX]; decide))
            have hI := hI.ag hgm_336 (by decide)
            have hI := hI.agg hggm_336
            have hW : IW (um_336 1) (um_336 2) (um_336 9) (ym_336 (a 89)) := by rw [hgm_336.at (fx_89 hX) (by decide)]; exact iw_u hW (hum_336 1 (by decide)) (hum_336 2 (by decide)) (hum_336 9 (by decide))
            have hTh : vb 38408 0 4800 (ym_336 (a 99)) := by rw [hgm_336.at (fx_99 hX) (by decide)]; exact hTh
            have : um_336 2 = v 2 := hum_336 2 (by decide)
            have : um_336 9 = v 9 := hum_336 9 (by decide)
            have : um_336 3 = v 3 := hum_336 3 (by decide)
            have : um_336 10 = v 10 := hum_336 10 (by decide)
            refine lv_pop hx hb dL_law_887 rfl ?_
            refine lv_goto (tgt := 1360) hx hb dL_law_888 (by decide) ?_
            obtain ⟨x_343, ex_343⟩ : ∃ y : Int32, y = i4 + Int32.ofInt 10 := ⟨_, rfl⟩
            have hx_343 := z_add ex_343 rfl (zk (x := Int32.ofInt 10) 10 rfl) (by omega) (by omega)
            refine lv_iinc (v := x_343) (lv' := [(4, .int x_343), (0, .ref b), (1, .ref (a 0)), (2, .ref (a 50)), (3, .ref (a 49))]) hx hb dL_law_1360 hl (k := 4) rfl ex_343.symm (by decide) rfl (fun ls hl => ?_)
            refine lv_goto (tgt := 23) hx hb dL_law_1363 (by decide) ?_
            refine W.widen (k := 200 + 4 * (q + 1)) (n := 60000 + 100 * (q + 1)) (by omega) (by omega) ?_
            exact ih (q + 1) x_343 tm_319 lm_319 ym_336 gm_336 um_319 um_336 H _ ls (by omega) hF hI hJ hW hTh hFo (by omega) (by omega) (by omega) (by omega) (by omega) hT hS (lv_sub hl [1, 2, 3, 4, 0] rfl)
          · rw [ht] at hT
            have hFo := hFo.m hIo hgm_339 (by decide) (hggm_339 (a 10) (by rw [fx_10 hX]; decide))
            have hI := hI.ag hgm_339 (by decide)
            have hI := hI.agg hggm_339
            have hW : IW (um_339 1) (um_339 2) (um_339 9) (ym_339 (a 89)) := by rw [hgm_339.at (fx_89 hX) (by decide)]; exact iw_u hW (hum_339 1 (by decide)) (hum_339 2 (by decide)) (hum_339 9 (by decide))
            have hTh : vb 38408 0 4800 (ym_339 (a 99)) := by rw [hgm_339.at (fx_99 hX) (by decide)]; exact hTh
            have : um_339 2 = v 2 := hum_339 2 (by decide)
            have : um_339 9 = v 9 := hum_339 9 (by decide)
            have : um_339 3 = v 3 := hum_339 3 (by decide)
            have : um_339 10 = v 10 := hum_339 10 (by decide)
            refine lv_pop hx hb dL_law_887 rfl ?_
            refine lv_goto (tgt := 1360) hx hb dL_law_888 (by decide) ?_
            obtain ⟨x_344, ex_344⟩ : ∃ y : Int32, y = i4 + Int32.ofInt 10 := ⟨_, rfl⟩
            have hx_344 := z_add ex_344 rfl (zk (x := Int32.ofInt 10) 10 rfl) (by omega) (by omega)
            refine lv_iinc (v := x_344) (lv' := [(4, .int x_344), (0, .ref b), (1, .ref (a 0)), (2, .ref (a 50)), (3, .ref (a 49))]) hx hb dL_law_1360 hl (k := 4) rfl ex_344.symm (by decide) rfl (fun ls hl => ?_)
            refine lv_goto (tgt := 23) hx hb dL_law_1363 (by decide) ?_
            refine W.widen (k := 200 + 4 * (q + 1)) (n := 60000 + 100 * (q + 1)) (by omega) (by omega) ?_
            exact ih (q + 1) x_344 tm_319 lm_319 ym_339 gm_339 um_319 um_339 H _ ls (by omega) hF hI hJ hW hTh hFo (by omega) (by omega) (by omega) (by omega) (by omega) hT hS (lv_sub hl [1, 2, 3, 4, 0] rfl)
      · refine lq_top (v := 17) t_5 ?_
        have nt_5 := z_eq rfl (zk (x := 17) 17 rfl) t_5
        refine lv_tableIn (tgt := 891) hx hb dL_law_40 (by decide) (by decide) (off := 851) (by decide) (by decide) ?_
        refine lv_aload_n hx hb dL_law_891 rfl (lv_at hl 1 rfl) ?_
        refine lv_aload_n hx hb dL_law_892 rfl (lv_at hl 0 rfl) ?_
        refine lv_iload hx hb dL_law_893 (lv_at hl 4 rfl) ?_
        refine lv_iconst (v := 1) hx hb dL_law_895 (by decide) ?_
        refine lv_iadd hx hb dL_law_896 ?_
        refine lv_topi (fun x_345 ex_345 => ?_)
        have hx_345 := z_add ex_345 rfl (zk (x := 1) 1 rfl) (by omega) (by omega)
        refine va_sld hx hb hXs hbl hbA hS (z_in rfl (by omega) (by omega)) dL_law_897 ?_
        refine lq_top (v := s1) (by rw [hs1]; exact congrArg xs (by rw [z_nat (x := x_345) rfl]; omega)) ?_
        have hFc := tw_free hF hS hA
        refine va_calli (va_runV (As := [.int s1]) (rest := []) ⟨hx, hb, hml, hown, hts⟩ (c_fault l dC dI ad av H.size a k τ ln y g u s1 hI ) (cwV 1 hts (gi_4 (im_law _ (List.mem_of_getElem? (i := 103) rfl)) (im_law _ (List.mem_of_getElem? (i := 104) rfl)) (im_law _ (List.mem_of_getElem? (i := 105) rfl)) (im_law _ (List.mem_of_getElem? (i := 3) rfl)) im_c_fault gd_c_fault) rfl rfl rfl (by decide +kernel) ⟨Nat.le_of_ble_eq_true rfl, Nat.le_of_ble_eq_true rfl⟩) ⟨pw_blind, tw_recv hK hT (fx_0 hX) (by decide) cl_e10 rfl, pw_use hT hK hFc hS hM⟩ rfl rfl hl.1 rfl (lv_room (Nat.le_of_ble_eq_true rfl)) dL_law_898 ⟨by show 200 + 4 * q + 0 ≤ 601024; omega, by show 60000 + 100 * q + 0 ≤ 7293034; omega⟩) hS (fun q _ h => hFc q h) hFc (fun r0 r_346 t H locs ht hvm hw hB hz1 hk1 hS => ?_)
        clear hvm hz1 hk1
        subst hw
        have hIo := hI
        obtain ⟨um_347, hum_347, ⟨tm_347, lm_347, ym_347, gm_347, hMo, hKM, hI, hT⟩⟩ := hB
        rw [ht] at hT
        have hF : ∀ q, tm_347 q ≠ 0 → s.heap.size ≤ q := fun q h => hFc q (hMo.2 q h)
        have hFo := hFo.kp hIo hKM (hum_347 1 (by decide)) (hum_347 2 (by decide)) (hum_347 9 (by decide))
        have hKM := hKM.to0
        have hJ := hJ.kp hKM hI.1
        have hW : IW (v 1) (v 2) (v 9) (ym_347 (a 89)) := by rw [hKM.fx hX (j := 89) (by decide) (by decide)]; exact hW
        have hTh : vb 38408 0 4800 (ym_347 (a 99)) := by rw [hKM.fx hX (j := 99) (by decide) (by decide)]; exact hTh
        have hX := hI.1
        have : um_347 2 = u 2 := hum_347 2 (by decide)
        have : um_347 9 = u 9 := hum_347 9 (by decide)
        refine lv_pop hx hb dL_law_901 rfl ?_
        refine lv_aload_n hx hb dL_law_902 rfl (lv_at hl 2 rfl) ?_
        refine lv_aload_n hx hb dL_law_903 rfl (lv_at hl 0 rfl) ?_
        refine lv_iload hx hb dL_law_904 (lv_at hl 4 rfl) ?_
        refine lv_iconst (v := 1) hx hb dL_law_906 (by decide) ?_
        refine lv_iadd hx hb dL_law_907 ?_
        refine lv_topi (fun x_348 ex_348 => ?_)
        have hx_348 := z_add ex_348 rfl (zk (x := 1) 1 rfl) (by omega) (by omega)
        refine va_sld hx hb hXs hbl hbA hS (z_in rfl (by omega) (by omega)) dL_law_908 ?_
        refine lq_top (v := s1) (by rw [hs1]; exact congrArg xs (by rw [z_nat (x := x_348) rfl]; omega)) ?_
        have hFc := tw_free hF hS hA
        refine va_calli (va_runV (As := [.int s1]) (rest := []) ⟨hx, hb, hml, hown, hts⟩ (m_fault l dC dI ad av H.size a k tm_347 lm_347 ym_347 gm_347 v s1 hJ hW) (cwV 1 hts (gi_4 (im_law _ (List.mem_of_getElem? (i := 106) rfl)) (im_law _ (List.mem_of_getElem? (i := 107) rfl)) (im_law _ (List.mem_of_getElem? (i := 108) rfl)) (im_law _ (List.mem_of_getElem? (i := 7) rfl)) im_m_fault gd_m_fault) rfl rfl rfl (by decide +kernel) ⟨Nat.le_of_ble_eq_true rfl, Nat.le_of_ble_eq_true rfl⟩) ⟨pw_blind, tw_recv hK hT (fx_50 hX) (by decide) cl_e60 rfl, pw_use hT hK hFc hS hM⟩ rfl rfl hl.1 rfl (lv_room (Nat.le_of_ble_eq_true rfl)) dL_law_909 ⟨by show 200 + 4 * q + 0 + 0 ≤ 601024; omega, by show 60000 + 100 * q + 0 + 0 ≤ 7293034; omega⟩) hS (fun q _ h => hFc q h) hFc (fun r0 r_349 t H locs ht hvm hw hB hz1 hk1 hS => ?_)
        clear hvm hz1 hk1
        subst hw
        have hIo := hI
        obtain ⟨ym_350, gm_350, hgm_350, hggm_350, hJ, hT⟩ := hB
        rw [ht] at hT
        have hFo := hFo.m hIo hgm_350 (by decide) (hggm_350 (a 10) (by rw [fx_10 hX]; decide))
        have hI := hI.ag hgm_350 (by decide)
        have hI := hI.agg hggm_350
        have hW : IW (v 1) (v 2) (v 9) (ym_350 (a 89)) := by rw [hgm_350.at (fx_89 hX) (by decide)]; exact hW
        have hTh : vb 38408 0 4800 (ym_350 (a 99)) := by rw [hgm_350.at (fx_99 hX) (by decide)]; exact hTh
        refine lv_pop hx hb dL_law_912 rfl ?_
        refine lv_goto (tgt := 1360) hx hb dL_law_913 (by decide) ?_
        obtain ⟨x_351, ex_351⟩ : ∃ y : Int32, y = i4 + Int32.ofInt 10 := ⟨_, rfl⟩
        have hx_351 := z_add ex_351 rfl (zk (x := Int32.ofInt 10) 10 rfl) (by omega) (by omega)
        refine lv_iinc (v := x_351) (lv' := [(4, .int x_351), (0, .ref b), (1, .ref (a 0)), (2, .ref (a 50)), (3, .ref (a 49))]) hx hb dL_law_1360 hl (k := 4) rfl ex_351.symm (by decide) rfl (fun ls hl => ?_)
        refine lv_goto (tgt := 23) hx hb dL_law_1363 (by decide) ?_
        refine W.widen (k := 200 + 4 * (q + 1)) (n := 60000 + 100 * (q + 1)) (by omega) (by omega) ?_
        exact ih (q + 1) x_351 tm_347 lm_347 ym_350 gm_350 um_347 v H _ ls (by omega) hF hI hJ hW hTh hFo (by omega) (by omega) (by omega) (by omega) (by omega) hT hS (lv_sub hl [1, 2, 3, 4, 0] rfl)
      · refine lq_top (v := 18) t_5 ?_
        have nt_5 := z_eq rfl (zk (x := 18) 18 rfl) t_5
        refine lv_tableIn (tgt := 916) hx hb dL_law_40 (by decide) (by decide) (off := 876) (by decide) (by decide) ?_
        refine lv_aload_n hx hb dL_law_916 rfl (lv_at hl 1 rfl) ?_
        refine lv_aload_n hx hb dL_law_917 rfl (lv_at hl 0 rfl) ?_
        refine lv_iload hx hb dL_law_918 (lv_at hl 4 rfl) ?_
        refine lv_iconst (v := 1) hx hb dL_law_920 (by decide) ?_
        refine lv_iadd hx hb dL_law_921 ?_
        refine lv_topi (fun x_352 ex_352 => ?_)
        have hx_352 := z_add ex_352 rfl (zk (x := 1) 1 rfl) (by omega) (by omega)
        refine va_sld hx hb hXs hbl hbA hS (z_in rfl (by omega) (by omega)) dL_law_922 ?_
        refine lq_top (v := s1) (by rw [hs1]; exact congrArg xs (by rw [z_nat (x := x_352) rfl]; omega)) ?_
        refine lv_aload_n hx hb dL_law_923 rfl (lv_at hl 0 rfl) ?_
        refine lv_iload hx hb dL_law_924 (lv_at hl 4 rfl) ?_
        refine lv_iconst (v := 2) hx hb dL_law_926 (by decide) ?_
        refine lv_iadd hx hb dL_law_927 ?_
        refine lv_topi (fun x_353 ex_353 => ?_)
        have hx_353 := z_add ex_353 rfl (zk (x := 2) 2 rfl) (by omega) (by omega)
        refine va_sld hx hb hXs hbl hbA hS (z_in rfl (by omega) (by omega)) dL_law_928 ?_
        refine lq_top (v := s2) (by rw [hs2]; exact congrArg xs (by rw [z_nat (x := x_353) rfl]; omega)) ?_
        have hFc := tw_free hF hS hA
        refine va_calli (va_runV (As := [.int s1, .int s2]) (rest := []) ⟨hx, hb, hml, hown, hts⟩ (c_faults l dC dI ad av H.size a k τ ln y g u s1 s2 hI ) (cwV 2 hts (gi_4 (im_law _ (List.mem_of_getElem? (i := 109) rfl)) (im_law _ (List.mem_of_getElem? (i := 110) rfl)) (im_law _ (List.mem_of_getElem? (i := 111) rfl)) (im_law _ (List.mem_of_getElem? (i := 3) rfl)) im_c_faults gd_c_faults) rfl rfl rfl (by decide +kernel) ⟨Nat.le_of_ble_eq_true rfl, Nat.le_of_ble_eq_true rfl⟩) ⟨pw_blind, tw_recv hK hT (fx_0 hX) (by decide) cl_e10 rfl, pw_use hT hK hFc hS hM⟩ rfl rfl hl.1 rfl (lv_room (Nat.le_of_ble_eq_true rfl)) dL_law_929 ⟨by show 200 + 4 * q + 0 ≤ 601024; omega, by show 60000 + 100 * q + 0 ≤ 7293034; omega⟩) hS (fun q _ h => hFc q h) hFc (fun r0 r_354 t H locs ht hvm hw hB hz1 hk1 hS => ?_)
        clear hvm hz1 hk1
        subst hw
        have hIo := hI
        obtain ⟨um_355, hum_355, ⟨tm_355, lm_355, ym_355, gm_355, hMo, hKM, hI, hT⟩⟩ := hB
        rw [ht] at hT
        have hF : ∀ q, tm_355 q ≠ 0 → s.heap.size ≤ q := fun q h => hFc q (hMo.2 q h)
        have hFo := hFo.kp hIo hKM (hum_355 1 (by decide)) (hum_355 2 (by decide)) (hum_355 9 (by decide))
        have hKM := hKM.to0
        have hJ := hJ.kp hKM hI.1
        have hW : IW (v 1) (v 2) (v 9) (ym_355 (a 89)) := by rw [hKM.fx hX (j := 89) (by decide) (by decide)]; exact hW
        have hTh : vb 38408 0 4800 (ym_355 (a 99)) := by rw [hKM.fx hX (j := 99) (by decide) (by decide)]; exact hTh
        have hX := hI.1
        have : um_355 2 = u 2 := hum_355 2 (by decide)
        have : um_355 9 = u 9 := hum_355 9 (by decide)
        refine lv_pop hx hb dL_law_932 rfl ?_
        refine lv_aload_n hx hb dL_law_933 rfl (lv_at hl 2 rfl) ?_
        refine lv_aload_n hx hb dL_law_934 rfl (lv_at hl 0 rfl) ?_
        refine lv_iload hx hb dL_law_935 (lv_at hl 4 rfl) ?_
        refine lv_iconst (v := 1) hx hb dL_law_937 (by decide) ?_
        refine lv_iadd hx hb dL_law_938 ?_
        refine lv_topi (fun x_356 ex_356 => ?_)
        have hx_356 := z_add ex_356 rfl (zk (x := 1) 1 rfl) (by omega) (by omega)
        refine va_sld hx hb hXs hbl hbA hS (z_in rfl (by omega) (by omega)) dL_law_939 ?_
        refine lq_top (v := s1) (by rw [hs1]; exact congrArg xs (by rw [z_nat (x := x_356) rfl]; omega)) ?_
        refine lv_aload_n hx hb dL_law_940 rfl (lv_at hl 0 rfl) ?_
        refine lv_iload hx hb dL_law_941 (lv_at hl 4 rfl) ?_
        refine lv_iconst (v := 2) hx hb dL_law_943 (by decide) ?_
        refine lv_iadd hx hb dL_law_944 ?_
        refine lv_topi (fun x_357 ex_357 => ?_)
        have hx_357 := z_add ex_357 rfl (zk (x := 2) 2 rfl) (by omega) (by omega)
        refine va_sld hx hb hXs hbl hbA hS (z_in rfl (by omega) (by omega)) dL_law_945 ?_
        refine lq_top (v := s2) (by rw [hs2]; exact congrArg xs (by rw [z_nat (x := x_357) rfl]; omega)) ?_
        have hFc := tw_free hF hS hA
        refine va_calli (va_runV (As := [.int s1, .int s2]) (rest := []) ⟨hx, hb, hml, hown, hts⟩ (m_faults l dC dI ad av H.size a k tm_355 lm_355 ym_355 gm_355 v s1 s2 hJ hW) (cwV 2 hts (gi_4 (im_law _ (List.mem_of_getElem? (i := 112) rfl)) (im_law _ (List.mem_of_getElem? (i := 113) rfl)) (im_law _ (List.mem_of_getElem? (i := 114) rfl)) (im_law _ (List.mem_of_getElem? (i := 7) rfl)) im_m_faults gd_m_faults) rfl rfl rfl (by decide +kernel) ⟨Nat.le_of_ble_eq_true rfl, Nat.le_of_ble_eq_true rfl⟩) ⟨pw_blind, tw_recv hK hT (fx_50 hX) (by decide) cl_e60 rfl, pw_use hT hK hFc hS hM⟩ rfl rfl hl.1 rfl (lv_room (Nat.le_of_ble_eq_true rfl)) dL_law_946 ⟨by show 200 + 4 * q + 0 + 0 ≤ 601024; omega, by show 60000 + 100 * q + 0 + 0 ≤ 7293034; omega⟩) hS (fun q _ h => hFc q h) hFc (fun r0 r_358 t H locs ht hvm hw hB hz1 hk1 hS => ?_)
        clear hvm hz1 hk1
        subst hw
        have hIo := hI
        obtain ⟨ym_359, gm_359, hgm_359, hggm_359, hJ, hT⟩ := hB
        rw [ht] at hT
        have hFo := hFo.m hIo hgm_359 (by decide) (hggm_359 (a 10) (by rw [fx_10 hX]; decide))
        have hI := hI.ag hgm_359 (by decide)
        have hI := hI.agg hggm_359
        have hW : IW (v 1) (v 2) (v 9) (ym_359 (a 89)) := by rw [hgm_359.at (fx_89 hX) (by decide)]; exact hW
        have hTh : vb 38408 0 4800 (ym_359 (a 99)) := by rw [hgm_359.at (fx_99 hX) (by decide)]; exact hTh
        refine lv_pop hx hb dL_law_949 rfl ?_
        refine lv_goto (tgt := 1360) hx hb dL_law_950 (by decide) ?_
        obtain ⟨x_360, ex_360⟩ : ∃ y : Int32, y = i4 + Int32.ofInt 10 := ⟨_, rfl⟩
        have hx_360 := z_add ex_360 rfl (zk (x := Int32.ofInt 10) 10 rfl) (by omega) (by omega)
        refine lv_iinc (v := x_360) (lv' := [(4, .int x_360), (0, .ref b), (1, .ref (a 0)), (2, .ref (a 50)), (3, .ref (a 49))]) hx hb dL_law_1360 hl (k := 4) rfl ex_360.symm (by decide) rfl (fun ls hl => ?_)
        refine lv_goto (tgt := 23) hx hb dL_law_1363 (by decide) ?_
        refine W.widen (k := 200 + 4 * (q + 1)) (n := 60000 + 100 * (q + 1)) (by omega) (by omega) ?_
        exact ih (q + 1) x_360 tm_355 lm_355 ym_359 gm_359 um_355 v H _ ls (by omega) hF hI hJ hW hTh hFo (by omega) (by omega) (by omega) (by omega) (by omega) hT hS (lv_sub hl [1, 2, 3, 4, 0] rfl)
      · refine lq_top (v := 19) t_5 ?_
        have nt_5 := z_eq rfl (zk (x := 19) 19 rfl) t_5
        refine lv_tableIn (tgt := 953) hx hb dL_law_40 (by decide) (by decide) (off := 913) (by decide) (by decide) ?_
        refine lv_aload_n hx hb dL_law_953 rfl (lv_at hl 1 rfl) ?_
        refine lv_aload_n hx hb dL_law_954 rfl (lv_at hl 0 rfl) ?_
        refine lv_iload hx hb dL_law_955 (lv_at hl 4 rfl) ?_
        refine lv_iconst (v := 1) hx hb dL_law_957 (by decide) ?_
        refine lv_iadd hx hb dL_law_958 ?_
        refine lv_topi (fun x_361 ex_361 => ?_)
        have hx_361 := z_add ex_361 rfl (zk (x := 1) 1 rfl) (by omega) (by omega)
        refine va_sld hx hb hXs hbl hbA hS (z_in rfl (by omega) (by omega)) dL_law_959 ?_
        refine lq_top (v := s1) (by rw [hs1]; exact congrArg xs (by rw [z_nat (x := x_361) rfl]; omega)) ?_
        refine lv_aload_n hx hb dL_law_960 rfl (lv_at hl 3 rfl) ?_
        have hFc := tw_free hF hS hA
        refine va_calli (vx_runSW (As := [.ref (a 0), .int s1, .ref (a 49)]) (rest := []) ⟨hx, hb, hml, hown, hts⟩ (k_pay l hst dC dI ad av H.size a k τ ln y g u s1 hI ) (vx_cwSW 3 hts (gi_3 (im_law _ (List.mem_of_getElem? (i := 115) rfl)) (im_law _ (List.mem_of_getElem? (i := 116) rfl)) (im_law _ (List.mem_of_getElem? (i := 52) rfl)) im_k_pay gd_k_pay) rfl rfl rfl (by decide +kernel) ⟨Nat.le_of_ble_eq_true rfl, Nat.le_of_ble_eq_true rfl⟩) ⟨pw_blind, pw_use hT hK hFc hS hM⟩ rfl rfl hl.1 rfl (lv_room (Nat.le_of_ble_eq_true rfl)) dL_law_961 ⟨by show 200 + 4 * q + 1 ≤ 601024; omega, by show 60000 + 100 * q + 6 ≤ 7293034; omega⟩) hS (fun q _ h => hFc q h) hFc (fun r0 r_362 t H locs ht hvm hw hB hz1 hk1 hS => ?_)
        clear hvm hz1 hk1
        subst hw
        have hIo := hI
        obtain ⟨um_363, hum_363, ⟨tm_363, lm_363, ym_363, gm_363, hMo, hKM, hI, hT⟩⟩ := hB
        rw [ht] at hT
        have hF : ∀ q, tm_363 q ≠ 0 → s.heap.size ≤ q := fun q h => hFc q (hMo.2 q h)
        have hFo := hFo.kp hIo hKM (hum_363 1 (by decide)) (hum_363 2 (by decide)) (hum_363 9 (by decide))
        have hKM := hKM.to0
        have hJ := hJ.kp hKM hI.1
        have hW : IW (v 1) (v 2) (v 9) (ym_363 (a 89)) := by rw [hKM.fx hX (j := 89) (by decide) (by decide)]; exact hW
        have hTh : vb 38408 0 4800 (ym_363 (a 99)) := by rw [hKM.fx hX (j := 99) (by decide) (by decide)]; exact hTh
        have hX := hI.1
        have : um_363 2 = u 2 := hum_363 2 (by decide)
        have : um_363 9 = u 9 := hum_363 9 (by decide)
        refine lv_istore (lv' := [(5, .int r_362), (0, .ref b), (1, .ref (a 0)), (2, .ref (a 50)), (3, .ref (a 49)), (4, .int i4)]) hx hb dL_law_964 hl (by decide) rfl (fun ls hl => ?_)
        refine lv_aload_n hx hb dL_law_966 rfl (lv_at hl 3 rfl) ?_
        refine lv_aload_n hx hb dL_law_967 rfl (lv_at hl 1 rfl) ?_
        refine lv_iload hx hb dL_law_968 (lv_at hl 5 rfl) ?_
        refine lv_iconst (v := 1) hx hb dL_law_970 (by decide) ?_
        refine lv_iadd hx hb dL_law_971 ?_
        refine lv_topi (fun x_364 ex_364 => ?_)
        have hx_364 := z_add ex_364 rfl (zk (x := 1) 1 rfl) (by omega) (by omega)
        refine va_sld hx hb hXs hbl hbA hS (z_in rfl (by omega) (by omega)) dL_law_972 ?_
        refine lq_top (v := s1) (by rw [hs1]; exact congrArg xs (by rw [z_nat (x := x_364) rfl]; omega)) ?_
        have hFc := tw_free hF hS hA
        refine va_calli (va_runV (As := [.int s1]) (rest := []) ⟨hx, hb, hml, hown, hts⟩ (m_pay l dC dI ad av H.size a k tm_363 lm_363 ym_363 gm_363 v s1 hJ hW) (cwV 1 hts (gi_4 (im_law _ (List.mem_of_getElem? (i := 117) rfl)) (im_law _ (List.mem_of_getElem? (i := 118) rfl)) (im_law _ (List.mem_of_getElem? (i := 119) rfl)) (im_law _ (List.mem_of_getElem? (i := 7) rfl)) im_m_pay gd_m_pay) rfl rfl rfl (by decide +kernel) ⟨Nat.le_of_ble_eq_true rfl, Nat.le_of_ble_eq_true rfl⟩) ⟨pw_blind, tw_recv hK hT (fx_50 hX) (by decide) cl_e60 rfl, pw_use hT hK hFc hS hM⟩ rfl rfl hl.1 rfl (lv_room (Nat.le_of_ble_eq_true rfl)) dL_law_973 ⟨by show 200 + 4 * q + 1 + 0 ≤ 601024; omega, by show 60000 + 100 * q + 6 + 0 ≤ 7293034; omega⟩) hS (fun q _ h => hFc q h) hFc (fun r0 r_365 t H locs ht hvm hw hB hz1 hk1 hS => ?_)
        clear hvm hz1 hk1
        subst hw
        have hIo := hI
        obtain ⟨ym_366, gm_366, hgm_366, hggm_366, hJ, hT⟩ := hB
        rw [ht] at hT
        have hFo := hFo.m hIo hgm_366 (by decide) (hggm_366 (a 10) (by rw [fx_10 hX]; decide))
        have hI := hI.ag hgm_366 (by decide)
        have hI := hI.agg hggm_366
        have hW : IW (v 1) (v 2) (v 9) (ym_366 (a 89)) := by rw [hgm_366.at (fx_89 hX) (by decide)]; exact hW
        have hTh : vb 38408 0 4800 (ym_366 (a 99)) := by rw [hgm_366.at (fx_99 hX) (by decide)]; exact hTh
        refine lv_istore (lv' := [(6, .int r_365), (5, .int r_362), (0, .ref b), (1, .ref (a 0)), (2, .ref (a 50)), (3, .ref (a 49)), (4, .int i4)]) hx hb dL_law_976 hl (by decide) rfl (fun ls hl => ?_)
        refine lv_goto (tgt := 1360) hx hb dL_law_978 (by decide) ?_
        obtain ⟨x_367, ex_367⟩ : ∃ y : Int32, y = i4 + Int32.ofInt 10 := ⟨_, rfl⟩
        have hx_367 := z_add ex_367 rfl (zk (x := Int32.ofInt 10) 10 rfl) (by omega) (by omega)
        refine lv_iinc (v := x_367) (lv' := [(4, .int x_367), (6, .int r_365), (5, .int r_362), (0, .ref b), (1, .ref (a 0)), (2, .ref (a 50)), (3, .ref (a 49))]) hx hb dL_law_1360 hl (k := 6) rfl ex_367.symm (by decide) rfl (fun ls hl => ?_)
        refine lv_goto (tgt := 23) hx hb dL_law_1363 (by decide) ?_
        refine W.widen (k := 200 + 4 * (q + 1)) (n := 60000 + 100 * (q + 1)) (by omega) (by omega) ?_
        exact ih (q + 1) x_367 tm_363 lm_363 ym_366 gm_366 um_363 v H _ ls (by omega) hF hI hJ hW hTh hFo (by omega) (by omega) (by omega) (by omega) (by omega) hT hS (lv_sub hl [3, 4, 5, 6, 0] rfl)
      · refine lq_top (v := 20) t_5 ?_
        have nt_5 := z_eq rfl (zk (x := 20) 20 rfl) t_5
        refine lv_tableIn (tgt := 981) hx hb dL_law_40 (by decide) (by decide) (off := 941) (by decide) (by decide) ?_
        refine lv_aload_n hx hb dL_law_981 rfl (lv_at hl 1 rfl) ?_
        refine lv_aload_n hx hb dL_law_982 rfl (lv_at hl 0 rfl) ?_
        refine lv_iload hx hb dL_law_983 (lv_at hl 4 rfl) ?_
        refine lv_iconst (v := 1) hx hb dL_law_985 (by decide) ?_
        refine lv_iadd hx hb dL_law_986 ?_
        refine lv_topi (fun x_368 ex_368 => ?_)
        have hx_368 := z_add ex_368 rfl (zk (x := 1) 1 rfl) (by omega) (by omega)
        refine va_sld hx hb hXs hbl hbA hS (z_in rfl (by omega) (by omega)) dL_law_987 ?_
        refine lq_top (v := s1) (by rw [hs1]; exact congrArg xs (by rw [z_nat (x := x_368) rfl]; omega)) ?_
        refine lv_aload_n hx hb dL_law_988 rfl (lv_at hl 0 rfl) ?_
        refine lv_iload hx hb dL_law_989 (lv_at hl 4 rfl) ?_
        refine lv_iconst (v := 2) hx hb dL_law_991 (by decide) ?_
        refine lv_iadd hx hb dL_law_992 ?_
        refine lv_topi (fun x_369 ex_369 => ?_)
        have hx_369 := z_add ex_369 rfl (zk (x := 2) 2 rfl) (by omega) (by omega)
        refine va_sld hx hb hXs hbl hbA hS (z_in rfl (by omega) (by omega)) dL_law_993 ?_
        refine lq_top (v := s2) (by rw [hs2]; exact congrArg xs (by rw [z_nat (x := x_369) rfl]; omega)) ?_
        refine lv_aload_n hx hb dL_law_994 rfl (lv_at hl 3 rfl) ?_
        have hFc := tw_free hF hS hA
        refine va_calli (vx_runSW (As := [.ref (a 0), .int s1, .int s2, .ref (a 49)]) (rest := []) ⟨hx, hb, hml, hown, hts⟩ (k_earns l hst dC dI ad av H.size a k τ ln y g u s1 s2 hI ) (vx_cwSW 4 hts (gi_3 (im_law _ (List.mem_of_getElem? (i := 120) rfl)) (im_law _ (List.mem_of_getElem? (i := 121) rfl)) (im_law _ (List.mem_of_getElem? (i := 52) rfl)) im_k_earns gd_k_earns) rfl rfl rfl (by decide +kernel) ⟨Nat.le_of_ble_eq_true rfl, Nat.le_of_ble_eq_true rfl⟩) ⟨pw_blind, pw_use hT hK hFc hS hM⟩ rfl rfl hl.1 rfl (lv_room (Nat.le_of_ble_eq_true rfl)) dL_law_995 ⟨by show 200 + 4 * q + 1 ≤ 601024; omega, by show 60000 + 100 * q + 6 ≤ 7293034; omega⟩) hS (fun q _ h => hFc q h) hFc (fun r0 r_370 t H locs ht hvm hw hB hz1 hk1 hS => ?_)
        clear hvm hz1 hk1
        subst hw
        have hIo := hI
        obtain ⟨um_371, hum_371, ⟨tm_371, lm_371, ym_371, gm_371, hMo, hKM, hI, hT⟩⟩ := hB
        rw [ht] at hT
        have hF : ∀ q, tm_371 q ≠ 0 → s.heap.size ≤ q := fun q h => hFc q (hMo.2 q h)
        have hFo := hFo.kp hIo hKM (hum_371 1 (by decide)) (hum_371 2 (by decide)) (hum_371 9 (by decide))
        have hKM := hKM.to0
        have hJ := hJ.kp hKM hI.1
        have hW : IW (v 1) (v 2) (v 9) (ym_371 (a 89)) := by rw [hKM.fx hX (j := 89) (by decide) (by decide)]; exact hW
        have hTh : vb 38408 0 4800 (ym_371 (a 99)) := by rw [hKM.fx hX (j := 99) (by decide) (by decide)]; exact hTh
        have hX := hI.1
        have : um_371 2 = u 2 := hum_371 2 (by decide)
        have : um_371 9 = u 9 := hum_371 9 (by decide)
        refine lv_istore (lv' := [(5, .int r_370), (0, .ref b), (1, .ref (a 0)), (2, .ref (a 50)), (3, .ref (a 49)), (4, .int i4)]) hx hb dL_law_998 hl (by decide) rfl (fun ls hl => ?_)
        refine lv_aload_n hx hb dL_law_1000 rfl (lv_at hl 3 rfl) ?_
        refine lv_aload_n hx hb dL_law_1001 rfl (lv_at hl 1 rfl) ?_
        refine lv_iload hx hb dL_law_1002 (lv_at hl 5 rfl) ?_
        refine lv_iconst (v := 1) hx hb dL_law_1004 (by decide) ?_
        refine lv_iadd hx hb dL_law_1005 ?_
        refine lv_topi (fun x_372 ex_372 => ?_)
        have hx_372 := z_add ex_372 rfl (zk (x := 1) 1 rfl) (by omega) (by omega)
        refine va_sld hx hb hXs hbl hbA hS (z_in rfl (by omega) (by omega)) dL_law_1006 ?_
        refine lq_top (v := s1) (by rw [hs1]; exact congrArg xs (by rw [z_nat (x := x_372) rfl]; omega)) ?_
        refine lv_aload_n hx hb dL_law_1007 rfl (lv_at hl 1 rfl) ?_
        refine lv_iload hx hb dL_law_1008 (lv_at hl 5 rfl) ?_
        refine lv_iconst (v := 2) hx hb dL_law_1010 (by decide) ?_
        refine lv_iadd hx hb dL_law_1011 ?_
        refine lv_topi (fun x_373 ex_373 => ?_)
        have hx_373 := z_add ex_373 rfl (zk (x := 2) 2 rfl) (by omega) (by omega)
        refine va_sld hx hb hXs hbl hbA hS (z_in rfl (by omega) (by omega)) dL_law_1012 ?_
        refine lq_top (v := s2) (by rw [hs2]; exact congrArg xs (by rw [z_nat (x := x_373) rfl]; omega)) ?_
        have hFc := tw_free hF hS hA
        refine va_calli (va_runV (As := [.int s1, .int s2]) (rest := []) ⟨hx, hb, hml, hown, hts⟩ (m_earns l dC dI ad av H.size a k tm_371 lm_371 ym_371 gm_371 v s1 s2 hJ hW) (cwV 2 hts (gi_4 (im_law _ (List.mem_of_getElem? (i := 122) rfl)) (im_law _ (List.mem_of_getElem? (i := 123) rfl)) (im_law _ (List.mem_of_getElem? (i := 124) rfl)) (im_law _ (List.mem_of_getElem? (i := 7) rfl)) im_m_earns gd_m_earns) rfl rfl rfl (by decide +kernel) ⟨Nat.le_of_ble_eq_true rfl, Nat.le_of_ble_eq_true rfl⟩) ⟨pw_blind, tw_recv hK hT (fx_50 hX) (by decide) cl_e60 rfl, pw_use hT hK hFc hS hM⟩ rfl rfl hl.1 rfl (lv_room (Nat.le_of_ble_eq_true rfl)) dL_law_1013 ⟨by show 200 + 4 * q + 1 + 0 ≤ 601024; omega, by show 60000 + 100 * q + 6 + 0 ≤ 7293034; omega⟩) hS (fun q _ h => hFc q h) hFc (fun r0 r_374 t H locs ht hvm hw hB hz1 hk1 hS => ?_)
        clear hvm hz1 hk1
        subst hw
        have hIo := hI
        obtain ⟨ym_375, gm_375, hgm_375, hggm_375, hJ, hT⟩ := hB
        rw [ht] at hT
        have hFo := hFo.m hIo hgm_375 (by decide) (hggm_375 (a 10) (by rw [fx_10 hX]; decide))
        have hI := hI.ag hgm_375 (by decide)
        have hI := hI.agg hggm_375
        have hW : IW (v 1) (v 2) (v 9) (ym_375 (a 89)) := by rw [hgm_375.at (fx_89 hX) (by decide)]; exact hW
        have hTh : vb 38408 0 4800 (ym_375 (a 99)) := by rw [hgm_375.at (fx_99 hX) (by decide)]; exact hTh
        refine lv_istore (lv' := [(6, .int r_374), (5, .int r_370), (0, .ref b), (1, .ref (a 0)), (2, .ref (a 50)), (3, .ref (a 49)), (4, .int i4)]) hx hb dL_law_1016 hl (by decide) rfl (fun ls hl => ?_)
        refine lv_goto (tgt := 1360) hx hb dL_law_1018 (by decide) ?_
        obtain ⟨x_376, ex_376⟩ : ∃ y : Int32, y = i4 + Int32.ofInt 10 := ⟨_, rfl⟩
        have hx_376 := z_add ex_376 rfl (zk (x := Int32.ofInt 10) 10 rfl) (by omega) (by omega)
        refine lv_iinc (v := x_376) (lv' := [(4, .int x_376), (6, .int r_374), (5, .int r_370), (0, .ref b), (1, .ref (a 0)), (2, .ref (a 50)), (3, .ref (a 49))]) hx hb dL_law_1360 hl (k := 6) rfl ex_376.symm (by decide) rfl (fun ls hl => ?_)
        refine lv_goto (tgt := 23) hx hb dL_law_1363 (by decide) ?_
        refine W.widen (k := 200 + 4 * (q + 1)) (n := 60000 + 100 * (q + 1)) (by omega) (by omega) ?_
        exact ih (q + 1) x_376 tm_371 lm_371 ym_375 gm_375 um_371 v H _ ls (by omega) hF hI hJ hW hTh hFo (by omega) (by omega) (by omega) (by omega) (by omega) hT hS (lv_sub hl [3, 4, 5, 6, 0] rfl)
      · refine lq_top (v := 21) t_5 ?_
        have nt_5 := z_eq rfl (zk (x := 21) 21 rfl) t_5
        refine lv_tableIn (tgt := 1021) hx hb dL_law_40 (by decide) (by decide) (off := 981) (by decide) (by decide) ?_
        refine lv_aload_n hx hb dL_law_1021 rfl (lv_at hl 1 rfl) ?_
        refine lv_aload_n hx hb dL_law_1022 rfl (lv_at hl 0 rfl) ?_
        refine lv_iload hx hb dL_law_1023 (lv_at hl 4 rfl) ?_
        refine lv_iconst (v := 1) hx hb dL_law_1025 (by decide) ?_
        refine lv_iadd hx hb dL_law_1026 ?_
        refine lv_topi (fun x_377 ex_377 => ?_)
        have hx_377 := z_add ex_377 rfl (zk (x := 1) 1 rfl) (by omega) (by omega)
        refine va_sld hx hb hXs hbl hbA hS (z_in rfl (by omega) (by omega)) dL_law_1027 ?_
        refine lq_top (v := s1) (by rw [hs1]; exact congrArg xs (by rw [z_nat (x := x_377) rfl]; omega)) ?_
        refine lv_aload_n hx hb dL_law_1028 rfl (lv_at hl 0 rfl) ?_
        refine lv_iload hx hb dL_law_1029 (lv_at hl 4 rfl) ?_
        refine lv_iconst (v := 2) hx hb dL_law_1031 (by decide) ?_
        refine lv_iadd hx hb dL_law_1032 ?_
        refine lv_topi (fun x_378 ex_378 => ?_)
        have hx_378 := z_add ex_378 rfl (zk (x := 2) 2 rfl) (by omega) (by omega)
        refine va_sld hx hb hXs hbl hbA hS (z_in rfl (by omega) (by omega)) dL_law_1033 ?_
        refine lq_top (v := s2) (by rw [hs2]; exact congrArg xs (by rw [z_nat (x := x_378) rfl]; omega)) ?_
        refine lv_aload_n hx hb dL_law_1034 rfl (lv_at hl 0 rfl) ?_
        refine lv_iload hx hb dL_law_1035 (lv_at hl 4 rfl) ?_
        refine lv_iconst (v := 3) hx hb dL_law_1037 (by decide) ?_
        refine lv_iadd hx hb dL_law_1038 ?_
        refine lv_topi (fun x_379 ex_379 => ?_)
        have hx_379 := z_add ex_379 rfl (zk (x := 3) 3 rfl) (by omega) (by omega)
        refine va_sld hx hb hXs hbl hbA hS (z_in rfl (by omega) (by omega)) dL_law_1039 ?_
        refine lq_top (v := s3) (by rw [hs3]; exact congrArg xs (by rw [z_nat (x := x_379) rfl]; omega)) ?_
        have hFc := tw_free hF hS hA
        refine va_calli (va_runV (As := [.int s1, .int s2, .int s3]) (rest := []) ⟨hx, hb, hml, hown, hts⟩ (c_slips l dC dI ad av H.size a k τ ln y g u s1 s2 s3 hI ) (cwV 3 hts (gi_4 (im_law _ (List.mem_of_getElem? (i := 125) rfl)) (im_law _ (List.mem_of_getElem? (i := 126) rfl)) (im_law _ (List.mem_of_getElem? (i := 127) rfl)) (im_law _ (List.mem_of_getElem? (i := 3) rfl)) im_c_slips gd_c_slips) rfl rfl rfl (by decide +kernel) ⟨Nat.le_of_ble_eq_true rfl, Nat.le_of_ble_eq_true rfl⟩) ⟨pw_blind, tw_recv hK hT (fx_0 hX) (by decide) cl_e10 rfl, pw_use hT hK hFc hS hM⟩ rfl rfl hl.1 rfl (lv_room (Nat.le_of_ble_eq_true rfl)) dL_law_1040 ⟨by show 200 + 4 * q + 0 ≤ 601024; omega, by show 60000 + 100 * q + 0 ≤ 7293034; omega⟩) hS (fun q _ h => hFc q h) hFc (fun r0 r_380 t H locs ht hvm hw hB hz1 hk1 hS => ?_)
        clear hvm hz1 hk1
        subst hw
        have hIo := hI
        rcases hB with ⟨um_381, hre, hum_381, hf_382, ⟨tm_381, lm_381, ym_381, gm_381, hMo, hKM, hI, hT⟩⟩ | ⟨um_383, hre, hum_383, hf_384, ⟨tm_383, lm_383, ym_383, gm_383, hMo, hKM, hI, hT⟩⟩
        · refine lq_top (v := 1) hre ?_
          rw [ht] at hT
          have hF : ∀ q, tm_381 q ≠ 0 → s.heap.size ≤ q := fun q h => hFc q (hMo.2 q h)
          have hFo := hFo.kp hIo hKM (hum_381 1 (by decide)) (hum_381 2 (by decide)) (hum_381 9 (by decide))
          have hKM := hKM.to0
          have hJ := hJ.kp hKM hI.1
          have hW : IW (v 1) (v 2) (v 9) (ym_381 (a 89)) := by rw [hKM.fx hX (j := 89) (by decide) (by decide)]; exact hW
          have hTh : vb 38408 0 4800 (ym_381 (a 99)) := by rw [hKM.fx hX (j := 99) (by decide) (by decide)]; exact hTh
          have hX := hI.1
          have : um_381 2 = u 2 := hum_381 2 (by decide)
          have : um_381 9 = u 9 := hum_381 9 (by decide)
          refine lv_pop hx hb dL_law_1043 rfl ?_
          refine lv_aload_n hx hb dL_law_1044 rfl (lv_at hl 2 rfl) ?_
          refine lv_aload_n hx hb dL_law_1045 rfl (lv_at hl 0 rfl) ?_
          refine lv_iload hx hb dL_law_1046 (lv_at hl 4 rfl) ?_
          refine lv_iconst (v := 1) hx hb dL_law_1048 (by decide) ?_
          refine lv_iadd hx hb dL_law_1049 ?_
          refine lv_topi (fun x_385 ex_385 => ?_)
          have hx_385 := z_add ex_385 rfl (zk (x := 1) 1 rfl) (by omega) (by omega)
          refine va_sld hx hb hXs hbl hbA hS (z_in rfl (by omega) (by omega)) dL_law_1050 ?_
          refine lq_top (v := s1) (by rw [hs1]; exact congrArg xs (by rw [z_nat (x := x_385) rfl]; omega)) ?_
          refine lv_aload_n hx hb dL_law_1051 rfl (lv_at hl 0 rfl) ?_
          refine lv_iload hx hb dL_law_1052 (lv_at hl 4 rfl) ?_
          refine lv_iconst (v := 2) hx hb dL_law_1054 (by decide) ?_
          refine lv_iadd hx hb dL_law_1055 ?_
          refine lv_topi (fun x_386 ex_386 => ?_)
          have hx_386 := z_add ex_386 rfl (zk (x := 2) 2 rfl) (by omega) (by omega)
          refine va_sld hx hb hXs hbl hbA hS (z_in rfl (by omega) (by omega)) dL_law_1056 ?_
          refine lq_top (v := s2) (by rw [hs2]; exact congrArg xs (by rw [z_nat (x := x_386) rfl]; omega)) ?_
          refine lv_aload_n hx hb dL_law_1057 rfl (lv_at hl 0 rfl) ?_
          refine lv_iload hx hb dL_law_1058 (lv_at hl 4 rfl) ?_
          refine lv_iconst (v := 3) hx hb dL_law_1060 (by decide) ?_
          refine lv_iadd hx hb dL_law_1061 ?_
          refine lv_topi (fun x_387 ex_387 => ?_)
          have hx_387 := z_add ex_387 rfl (zk (x := 3) 3 rfl) (by omega) (by omega)
          refine va_sld hx hb hXs hbl hbA hS (z_in rfl (by omega) (by omega)) dL_law_1062 ?_
          refine lq_top (v := s3) (by rw [hs3]; exact congrArg xs (by rw [z_nat (x := x_387) rfl]; omega)) ?_
          have hFc := tw_free hF hS hA
          refine va_calli (va_runV (As := [.int s1, .int s2, .int s3]) (rest := []) ⟨hx, hb, hml, hown, hts⟩ (m_slips l dC dI ad av H.size a k tm_381 lm_381 ym_381 gm_381 v s1 s2 s3 hJ hW) (cwV 3 hts (gi_4 (im_law _ (List.mem_of_getElem? (i := 128) rfl)) (im_law _ (List.mem_of_getElem? (i := 129) rfl)) (im_law _ (List.mem_of_getElem? (i := 130) rfl)) (im_law _ (List.mem_of_getElem? (i := 7) rfl)) im_m_slips gd_m_slips) rfl rfl rfl (by decide +kernel) ⟨Nat.le_of_ble_eq_true rfl, Nat.le_of_ble_eq_true rfl⟩) ⟨pw_blind, tw_recv hK hT (fx_50 hX) (by decide) cl_e60 rfl, pw_use hT hK hFc hS hM⟩ rfl rfl hl.1 rfl (lv_room (Nat.le_of_ble_eq_true rfl)) dL_law_1063 ⟨by show 200 + 4 * q + 0 + 0 ≤ 601024; omega, by show 60000 + 100 * q + 0 + 0 ≤ 7293034; omega⟩) hS (fun q _ h => hFc q h) hFc (fun r0 r_388 t H locs ht hvm hw hB hz1 hk1 hS => ?_)
          clear hvm hz1 hk1
          subst hw
          have hIo := hI
          rcases hB with ⟨ym_389, gm_389, hre, hgm_389, hggm_389, hJ, hf_390, hT⟩ | ⟨ym_391, gm_391, hre, hgm_391, hggm_391, hJ, hf_392, hT⟩
          · refine lq_top (v := 1) hre ?_
            rw [ht] at hT
            have hFo := hFo.m hIo hgm_389 (by decide) (hggm_389 (a 10) (by rw [fx_10 hX]; decide))
            have hI := hI.ag hgm_389 (by decide)
            have hI := hI.agg hggm_389
            have hW : IW (v 1) (v 2) (v 9) (ym_389 (a 89)) := by rw [hgm_389.at (fx_89 hX) (by decide)]; exact hW
            have hTh : vb 38408 0 4800 (ym_389 (a 99)) := by rw [hgm_389.at (fx_99 hX) (by decide)]; exact hTh
            refine lv_pop hx hb dL_law_1066 rfl ?_
            refine lv_goto (tgt := 1360) hx hb dL_law_1067 (by decide) ?_
            obtain ⟨x_393, ex_393⟩ : ∃ y : Int32, y = i4 + Int32.ofInt 10 := ⟨_, rfl⟩
            have hx_393 := z_add ex_393 rfl (zk (x := Int32.ofInt 10) 10 rfl) (by omega) (by omega)
            refine lv_iinc (v := x_393) (lv' := [(4, .int x_393), (0, .ref b), (1, .ref (a 0)), (2, .ref (a 50)), (3, .ref (a 49))]) hx hb dL_law_1360 hl (k := 4) rfl ex_393.symm (by decide) rfl (fun ls hl => ?_)
            refine lv_goto (tgt := 23) hx hb dL_law_1363 (by decide) ?_
            refine W.widen (k := 200 + 4 * (q + 1)) (n := 60000 + 100 * (q + 1)) (by omega) (by omega) ?_
            exact ih (q + 1) x_393 tm_381 lm_381 ym_389 gm_389 um_381 v H _ ls (by omega) hF hI hJ hW hTh hFo (by omega) (by omega) (by omega) (by omega) (by omega) hT hS (lv_sub hl [1, 2, 3, 4, 0] rfl)
          · refine lq_top (v := 0) hre ?_
            rw [ht] at hT
            have hFo := hFo.m hIo hgm_391 (by decide) (hggm_391 (a 10) (by rw [fx_10 hX]; decide))
            have hI := hI.ag hgm_391 (by decide)
            have hI := hI.agg hggm_391
            have hW : IW (v 1) (v 2) (v 9) (ym_391 (a 89)) := by rw [hgm_391.at (fx_89 hX) (by decide)]; exact hW
            have hTh : vb 38408 0 4800 (ym_391 (a 99)) := by rw [hgm_391.at (fx_99 hX) (by decide)]; exact hTh
            refine lv_pop hx hb dL_law_1066 rfl ?_
            refine lv_goto (tgt := 1360) hx hb dL_law_1067 (by decide) ?_
            obtain ⟨x_394, ex_394⟩ : ∃ y : Int32, y = i4 + Int32.ofInt 10 := ⟨_, rfl⟩
            have hx_394 := z_add ex_394 rfl (zk (x := Int32.ofInt 10) 10 rfl) (by omega) (by omega)
            refine lv_iinc (v := x_394) (lv' := [(4, .int x_394), (0, .ref b), (1, .ref (a 0)), (2, .ref (a 50)), (3, .ref (a 49))]) hx hb dL_law_1360 hl (k := 4) rfl ex_394.symm (by decide) rfl (fun ls hl => ?_)
            refine lv_goto (tgt := 23) hx hb dL_law_1363 (by decide) ?_
            refine W.widen (k := 200 + 4 * (q + 1)) (n := 60000 + 100 * (q + 1)) (by omega) (by omega) ?_
            exact ih (q + 1) x_394 tm_381 lm_381 ym_391 gm_391 um_381 v H _ ls (by omega) hF hI hJ hW hTh hFo (by omega) (by omega) (by omega) (by omega) (by omega) hT hS (lv_sub hl [1, 2, 3, 4, 0] rfl)
        · refine lq_top (v := 0) hre ?_
          rw [ht] at hT
          have hF : ∀ q, tm_383 q ≠ 0 → s.heap.size ≤ q := fun q h => hFc q (hMo.2 q h)
          have hFo := hFo.kp hIo hKM (hum_383 1 (by decide)) (hum_383 2 (by decide)) (hum_383 9 (by decide))
          have hKM := hKM.to0
          have hJ := hJ.kp hKM hI.1
          have hW : IW (v 1) (v 2) (v 9) (ym_383 (a 89)) := by rw [hKM.fx hX (j := 89) (by decide) (by decide)]; exact hW
          have hTh : vb 38408 0 4800 (ym_383 (a 99)) := by rw [hKM.fx hX (j := 99) (by decide) (by decide)]; exact hTh
          have hX := hI.1
          have : um_383 2 = u 2 := hum_383 2 (by decide)
          have : um_383 9 = u 9 := hum_383 9 (by decide)
          refine lv_pop hx hb dL_law_1043 rfl ?_
          refine lv_aload_n hx hb dL_law_1044 rfl (lv_at hl 2 rfl) ?_
          refine lv_aload_n hx hb dL_law_1045 rfl (lv_at hl 0 rfl) ?_
          refine lv_iload hx hb dL_law_1046 (lv_at hl 4 rfl) ?_
          refine lv_iconst (v := 1) hx hb dL_law_1048 (by decide) ?_
          refine lv_iadd hx hb dL_law_1049 ?_
          refine lv_topi (fun x_395 ex_395 => ?_)
          have hx_395 := z_add ex_395 rfl (zk (x := 1) 1 rfl) (by omega) (by omega)
          refine va_sld hx hb hXs hbl hbA hS (z_in rfl (by omega) (by omega)) dL_law_1050 ?_
          refine lq_top (v := s1) (by rw [hs1]; exact congrArg xs (by rw [z_nat (x := x_395) rfl]; omega)) ?_
          refine lv_aload_n hx hb dL_law_1051 rfl (lv_at hl 0 rfl) ?_
          refine lv_iload hx hb dL_law_1052 (lv_at hl 4 rfl) ?_
          refine lv_iconst (v := 2) hx hb dL_law_1054 (by decide) ?_
          refine lv_iadd hx hb dL_law_1055 ?_
          refine lv_topi (fun x_396 ex_396 => ?_)
          have hx_396 := z_add ex_396 rfl (zk (x := 2) 2 rfl) (by omega) (by omega)
          refine va_sld hx hb hXs hbl hbA hS (z_in rfl (by omega) (by omega)) dL_law_1056 ?_
          refine lq_top (v := s2) (by rw [hs2]; exact congrArg xs (by rw [z_nat (x := x_396) rfl]; omega)) ?_
          refine lv_aload_n hx hb dL_law_1057 rfl (lv_at hl 0 rfl) ?_
          refine lv_iload hx hb dL_law_1058 (lv_at hl 4 rfl) ?_
          refine lv_iconst (v := 3) hx hb dL_law_1060 (by decide) ?_
          refine lv_iadd hx hb dL_law_1061 ?_
          refine lv_topi (fun x_397 ex_397 => ?_)
          have hx_397 := z_add ex_397 rfl (zk (x := 3) 3 rfl) (by omega) (by omega)
          refine va_sld hx hb hXs hbl hbA hS (z_in rfl (by omega) (by omega)) dL_law_1062 ?_
          refine lq_top (v := s3) (by rw [hs3]; exact congrArg xs (by rw [z_nat (x := x_397) rfl]; omega)) ?_
          have hFc := tw_free hF hS hA
          refine va_calli (va_runV (As := [.int s1, .int s2, .int s3]) (rest := []) ⟨hx, hb, hml, hown, hts⟩ (m_slips l dC dI ad av H.size a k tm_383 lm_383 ym_383 gm_383 v s1 s2 s3 hJ hW) (cwV 3 hts (gi_4 (im_law _ (List.mem_of_getElem? (i := 128) rfl)) (im_law _ (List.mem_of_getElem? (i := 129) rfl)) (im_law _ (List.mem_of_getElem? (i := 130) rfl)) (im_law _ (List.mem_of_getElem? (i := 7) rfl)) im_m_slips gd_m_slips) rfl rfl rfl (by decide +kernel) ⟨Nat.le_of_ble_eq_true rfl, Nat.le_of_ble_eq_true rfl⟩) ⟨pw_blind, tw_recv hK hT (fx_50 hX) (by decide) cl_e60 rfl, pw_use hT hK hFc hS hM⟩ rfl rfl hl.1 rfl (lv_room (Nat.le_of_ble_eq_true rfl)) dL_law_1063 ⟨by show 200 + 4 * q + 0 + 0 ≤ 601024; omega, by show 60000 + 100 * q + 0 + 0 ≤ 7293034; omega⟩) hS (fun q _ h => hFc q h) hFc (fun r0 r_398 t H locs ht hvm hw hB hz1 hk1 hS => ?_)
          clear hvm hz1 hk1
          subst hw
          have hIo := hI
          rcases hB with ⟨ym_399, gm_399, hre, hgm_399, hggm_399, hJ, hf_400, hT⟩ | ⟨ym_401, gm_401, hre, hgm_401, hggm_401, hJ, hf_402, hT⟩
          · refine lq_top (v := 1) hre ?_
            rw [ht] at hT
            have hFo := hFo.m hIo hgm_399 (by decide) (hggm_399 (a 10) (by rw [fx_10 hX]; decide))
            have hI := hI.ag hgm_399 (by decide)
            have hI := hI.agg hggm_399
            have hW : IW (v 1) (v 2) (v 9) (ym_399 (a 89)) := by rw [hgm_399.at (fx_89 hX) (by decide)]; exact hW
            have hTh : vb 38408 0 4800 (ym_399 (a 99)) := by rw [hgm_399.at (fx_99 hX) (by decide)]; exact hTh
            refine lv_pop hx hb dL_law_1066 rfl ?_
            refine lv_goto (tgt := 1360) hx hb dL_law_1067 (by decide) ?_
            obtain ⟨x_403, ex_403⟩ : ∃ y : Int32, y = i4 + Int32.ofInt 10 := ⟨_, rfl⟩
            have hx_403 := z_add ex_403 rfl (zk (x := Int32.ofInt 10) 10 rfl) (by omega) (by omega)
            refine lv_iinc (v := x_403) (lv' := [(4, .int x_403), (0, .ref b), (1, .ref (a 0)), (2, .ref (a 50)), (3, .ref (a 49))]) hx hb dL_law_1360 hl (k := 4) rfl ex_403.symm (by decide) rfl (fun ls hl => ?_)
            refine lv_goto (tgt := 23) hx hb dL_law_1363 (by decide) ?_
            refine W.widen (k := 200 + 4 * (q + 1)) (n := 60000 + 100 * (q + 1)) (by omega) (by omega) ?_
            exact ih (q + 1) x_403 tm_383 lm_383 ym_399 gm_399 um_383 v H _ ls (by omega) hF hI hJ hW hTh hFo (by omega) (by omega) (by omega) (by omega) (by omega) hT hS (lv_sub hl [1, 2, 3, 4, 0] rfl)
          · refine lq_top (v := 0) hre ?_
            rw [ht] at hT
            have hFo := hFo.m hIo hgm_401 (by decide) (hggm_401 (a 10) (by rw [fx_10 hX]; decide))
            have hI := hI.ag hgm_401 (by decide)
            have hI := hI.agg hggm_401
            have hW : IW (v 1) (v 2) (v 9) (ym_401 (a 89)) := by rw [hgm_401.at (fx_89 hX) (by decide)]; exact hW
            have hTh : vb 38408 0 4800 (ym_401 (a 99)) := by rw [hgm_401.at (fx_99 hX) (by decide)]; exact hTh
            refine lv_pop hx hb dL_law_1066 rfl ?_
            refine lv_goto (tgt := 1360) hx hb dL_law_1067 (by decide) ?_
            obtain ⟨x_404, ex_404⟩ : ∃ y : Int32, y = i4 + Int32.ofInt 10 := ⟨_, rfl⟩
            have hx_404 := z_add ex_404 rfl (zk (x := Int32.ofInt 10) 10 rfl) (by omega) (by omega)
            refine lv_iinc (v := x_404) (lv' := [(4, .int x_404), (0, .ref b), (1, .ref (a 0)), (2, .ref (a 50)), (3, .ref (a 49))]) hx hb dL_law_1360 hl (k := 4) rfl ex_404.symm (by decide) rfl (fun ls hl => ?_)
            refine lv_goto (tgt := 23) hx hb dL_law_1363 (by decide) ?_
            refine W.widen (k := 200 + 4 * (q + 1)) (n := 60000 + 100 * (q + 1)) (by omega) (by omega) ?_
            exact ih (q + 1) x_404 tm_383 lm_383 ym_401 gm_401 um_383 v H _ ls (by omega) hF hI hJ hW hTh hFo (by omega) (by omega) (by omega) (by omega) (by omega) hT hS (lv_sub hl [1, 2, 3, 4, 0] rfl)
      · refine lq_top (v := 22) t_5 ?_
        have nt_5 := z_eq rfl (zk (x := 22) 22 rfl) t_5
        refine lv_tableIn (tgt := 1070) hx hb dL_law_40 (by decide) (by decide) (off := 1030) (by decide) (by decide) ?_
        refine lv_aload_n hx hb dL_law_1070 rfl (lv_at hl 1 rfl) ?_
        refine lv_aload_n hx hb dL_law_1071 rfl (lv_at hl 0 rfl) ?_
        refine lv_iload hx hb dL_law_1072 (lv_at hl 4 rfl) ?_
        refine lv_iconst (v := 1) hx hb dL_law_1074 (by decide) ?_
        refine lv_iadd hx hb dL_law_1075 ?_
        refine lv_topi (fun x_405 ex_405 => ?_)
        have hx_405 := z_add ex_405 rfl (zk (x := 1) 1 rfl) (by omega) (by omega)
        refine va_sld hx hb hXs hbl hbA hS (z_in rfl (by omega) (by omega)) dL_law_1076 ?_
        refine lq_top (v := s1) (by rw [hs1]; exact congrArg xs (by rw [z_nat (x := x_405) rfl]; omega)) ?_
        refine lv_aload_n hx hb dL_law_1077 rfl (lv_at hl 0 rfl) ?_
        refine lv_iload hx hb dL_law_1078 (lv_at hl 4 rfl) ?_
        refine lv_iconst (v := 2) hx hb dL_law_1080 (by decide) ?_
        refine lv_iadd hx hb dL_law_1081 ?_
        refine lv_topi (fun x_406 ex_406 => ?_)
        have hx_406 := z_add ex_406 rfl (zk (x := 2) 2 rfl) (by omega) (by omega)
        refine va_sld hx hb hXs hbl hbA hS (z_in rfl (by omega) (by omega)) dL_law_1082 ?_
        refine lq_top (v := s2) (by rw [hs2]; exact congrArg xs (by rw [z_nat (x := x_406) rfl]; omega)) ?_
        have hFc := tw_free hF hS hA
        refine va_calli (va_runV (As := [.int s1, .int s2]) (rest := []) ⟨hx, hb, hml, hown, hts⟩ (c_left l dC dI ad av H.size a k τ ln y g u s1 s2 hI ) (cwV 2 hts (gi_4 (im_law _ (List.mem_of_getElem? (i := 131) rfl)) (im_law _ (List.mem_of_getElem? (i := 132) rfl)) (im_law _ (List.mem_of_getElem? (i := 133) rfl)) (im_law _ (List.mem_of_getElem? (i := 3) rfl)) im_c_left gd_c_left) rfl rfl rfl (by decide +kernel) ⟨Nat.le_of_ble_eq_true rfl, Nat.le_of_ble_eq_true rfl⟩) ⟨pw_blind, tw_recv hK hT (fx_0 hX) (by decide) cl_e10 rfl, pw_use hT hK hFc hS hM⟩ rfl rfl hl.1 rfl (lv_room (Nat.le_of_ble_eq_true rfl)) dL_law_1083 ⟨by show 200 + 4 * q + 0 ≤ 601024; omega, by show 60000 + 100 * q + 0 ≤ 7293034; omega⟩) hS (fun q _ h => hFc q h) hFc (fun r0 r_407 t H locs ht hvm hw hB hz1 hk1 hS => ?_)
        clear hvm hz1 hk1
        subst hw
        have hIo := hI
        obtain ⟨um_408, hum_408, ⟨tm_408, lm_408, ym_408, gm_408, hMo, hKM, hI, hT⟩⟩ := hB
        rw [ht] at hT
        have hF : ∀ q, tm_408 q ≠ 0 → s.heap.size ≤ q := fun q h => hFc q (hMo.2 q h)
        have hFo := hFo.kp hIo hKM (hum_408 1 (by decide)) (hum_408 2 (by decide)) (hum_408 9 (by decide))
        have hKM := hKM.to0
        have hJ := hJ.kp hKM hI.1
        have hW : IW (v 1) (v 2) (v 9) (ym_408 (a 89)) := by rw [hKM.fx hX (j := 89) (by decide) (by decide)]; exact hW
        have hTh : vb 38408 0 4800 (ym_408 (a 99)) := by rw [hKM.fx hX (j := 99) (by decide) (by decide)]; exact hTh
        have hX := hI.1
        have : um_408 2 = u 2 := hum_408 2 (by decide)
        have : um_408 9 = u 9 := hum_408 9 (by decide)
        refine lv_pop hx hb dL_law_1086 rfl ?_
        refine lv_aload_n hx hb dL_law_1087 rfl (lv_at hl 2 rfl) ?_
        refine lv_aload_n hx hb dL_law_1088 rfl (lv_at hl 0 rfl) ?_
        refine lv_iload hx hb dL_law_1089 (lv_at hl 4 rfl) ?_
        refine lv_iconst (v := 1) hx hb dL_law_1091 (by decide) ?_
        refine lv_iadd hx hb dL_law_1092 ?_
        refine lv_topi (fun x_409 ex_409 => ?_)
        have hx_409 := z_add ex_409 rfl (zk (x := 1) 1 rfl) (by omega) (by omega)
        refine va_sld hx hb hXs hbl hbA hS (z_in rfl (by omega) (by omega)) dL_law_1093 ?_
        refine lq_top (v := s1) (by rw [hs1]; exact congrArg xs (by rw [z_nat (x := x_409) rfl]; omega)) ?_
        refine lv_aload_n hx hb dL_law_1094 rfl (lv_at hl 0 rfl) ?_
        refine lv_iload hx hb dL_law_1095 (lv_at hl 4 rfl) ?_
        refine lv_iconst (v := 2) hx hb dL_law_1097 (by decide) ?_
        refine lv_iadd hx hb dL_law_1098 ?_
        refine lv_topi (fun x_410 ex_410 => ?_)
        have hx_410 := z_add ex_410 rfl (zk (x := 2) 2 rfl) (by omega) (by omega)
        refine va_sld hx hb hXs hbl hbA hS (z_in rfl (by omega) (by omega)) dL_law_1099 ?_
        refine lq_top (v := s2) (by rw [hs2]; exact congrArg xs (by rw [z_nat (x := x_410) rfl]; omega)) ?_
        have hFc := tw_free hF hS hA
        refine va_calli (va_runV (As := [.int s1, .int s2]) (rest := []) ⟨hx, hb, hml, hown, hts⟩ (m_left l dC dI ad av H.size a k tm_408 lm_408 ym_408 gm_408 v s1 s2 hJ hW) (cwV 2 hts (gi_4 (im_law _ (List.mem_of_getElem? (i := 134) rfl)) (im_law _ (List.mem_of_getElem? (i := 135) rfl)) (im_law _ (List.mem_of_getElem? (i := 136) rfl)) (im_law _ (List.mem_of_getElem? (i := 7) rfl)) im_m_left gd_m_left) rfl rfl rfl (by decide +kernel) ⟨Nat.le_of_ble_eq_true rfl, Nat.le_of_ble_eq_true rfl⟩) ⟨pw_blind, tw_recv hK hT (fx_50 hX) (by decide) cl_e60 rfl, pw_use hT hK hFc hS hM⟩ rfl rfl hl.1 rfl (lv_room (Nat.le_of_ble_eq_true rfl)) dL_law_1100 ⟨by show 200 + 4 * q + 0 + 0 ≤ 601024; omega, by show 60000 + 100 * q + 0 + 0 ≤ 7293034; omega⟩) hS (fun q _ h => hFc q h) hFc (fun r0 r_411 t H locs ht hvm hw hB hz1 hk1 hS => ?_)
        clear hvm hz1 hk1
        subst hw
        have hIo := hI
        obtain ⟨ym_412, gm_412, hgm_412, hggm_412, hJ, hT⟩ := hB
        rw [ht] at hT
        have hFo := hFo.m hIo hgm_412 (by decide) (hggm_412 (a 10) (by rw [fx_10 hX]; decide))
        have hI := hI.ag hgm_412 (by decide)
        have hI := hI.agg hggm_412
        have hW : IW (v 1) (v 2) (v 9) (ym_412 (a 89)) := by rw [hgm_412.at (fx_89 hX) (by decide)]; exact hW
        have hTh : vb 38408 0 4800 (ym_412 (a 99)) := by rw [hgm_412.at (fx_99 hX) (by decide)]; exact hTh
        refine lv_pop hx hb dL_law_1103 rfl ?_
        refine lv_goto (tgt := 1360) hx hb dL_law_1104 (by decide) ?_
        obtain ⟨x_413, ex_413⟩ : ∃ y : Int32, y = i4 + Int32.ofInt 10 := ⟨_, rfl⟩
        have hx_413 := z_add ex_413 rfl (zk (x := Int32.ofInt 10) 10 rfl) (by omega) (by omega)
        refine lv_iinc (v := x_413) (lv' := [(4, .int x_413), (0, .ref b), (1, .ref (a 0)), (2, .ref (a 50)), (3, .ref (a 49))]) hx hb dL_law_1360 hl (k := 4) rfl ex_413.symm (by decide) rfl (fun ls hl => ?_)
        refine lv_goto (tgt := 23) hx hb dL_law_1363 (by decide) ?_
        refine W.widen (k := 200 + 4 * (q + 1)) (n := 60000 + 100 * (q + 1)) (by omega) (by omega) ?_
        exact ih (q + 1) x_413 tm_408 lm_408 ym_412 gm_412 um_408 v H _ ls (by omega) hF hI hJ hW hTh hFo (by omega) (by omega) (by omega) (by omega) (by omega) hT hS (lv_sub hl [1, 2, 3, 4, 0] rfl)
      · refine lq_top (v := 23) t_5 ?_
        have nt_5 := z_eq rfl (zk (x := 23) 23 rfl) t_5
        refine lv_tableIn (tgt := 1107) hx hb dL_law_40 (by decide) (by decide) (off := 1067) (by decide) (by decide) ?_
        refine lv_aload_n hx hb dL_law_1107 rfl (lv_at hl 1 rfl) ?_
        refine lv_aload_n hx hb dL_law_1108 rfl (lv_at hl 0 rfl) ?_
        refine lv_iload hx hb dL_law_1109 (lv_at hl 4 rfl) ?_
        refine lv_iconst (v := 1) hx hb dL_law_1111 (by decide) ?_
        refine lv_iadd hx hb dL_law_1112 ?_
        refine lv_topi (fun x_414 ex_414 => ?_)
        have hx_414 := z_add ex_414 rfl (zk (x := 1) 1 rfl) (by omega) (by omega)
        refine va_sld hx hb hXs hbl hbA hS (z_in rfl (by omega) (by omega)) dL_law_1113 ?_
        refine lq_top (v := s1) (by rw [hs1]; exact congrArg xs (by rw [z_nat (x := x_414) rfl]; omega)) ?_
        refine lv_aload_n hx hb dL_law_1114 rfl (lv_at hl 0 rfl) ?_
        refine lv_iload hx hb dL_law_1115 (lv_at hl 4 rfl) ?_
        refine lv_iconst (v := 2) hx hb dL_law_1117 (by decide) ?_
        refine lv_iadd hx hb dL_law_1118 ?_
        refine lv_topi (fun x_415 ex_415 => ?_)
        have hx_415 := z_add ex_415 rfl (zk (x := 2) 2 rfl) (by omega) (by omega)
        refine va_sld hx hb hXs hbl hbA hS (z_in rfl (by omega) (by omega)) dL_law_1119 ?_
        refine lq_top (v := s2) (by rw [hs2]; exact congrArg xs (by rw [z_nat (x := x_415) rfl]; omega)) ?_
        have hFc := tw_free hF hS hA
        refine va_calli (va_runV (As := [.int s1, .int s2]) (rest := []) ⟨hx, hb, hml, hown, hts⟩ (c_quick l dC dI ad av H.size a k τ ln y g u s1 s2 hI ) (cwV 2 hts (gi_4 (im_law _ (List.mem_of_getElem? (i := 137) rfl)) (im_law _ (List.mem_of_getElem? (i := 138) rfl)) (im_law _ (List.mem_of_getElem? (i := 139) rfl)) (im_law _ (List.mem_of_getElem? (i := 3) rfl)) im_c_quick gd_c_quick) rfl rfl rfl (by decide +kernel) ⟨Nat.le_of_ble_eq_true rfl, Nat.le_of_ble_eq_true rfl⟩) ⟨pw_blind, tw_recv hK hT (fx_0 hX) (by decide) cl_e10 rfl, pw_use hT hK hFc hS hM⟩ rfl rfl hl.1 rfl (lv_room (Nat.le_of_ble_eq_true rfl)) dL_law_1120 ⟨by show 200 + 4 * q + 0 ≤ 601024; omega, by show 60000 + 100 * q + 0 ≤ 7293034; omega⟩) hS (fun q _ h => hFc q h) hFc (fun r0 r_416 t H locs ht hvm hw hB hz1 hk1 hS => ?_)
        clear hvm hz1 hk1
        subst hw
        have hIo := hI
        obtain ⟨um_417, hum_417, ⟨tm_417, lm_417, ym_417, gm_417, hMo, hKM, hI, hT⟩⟩ := hB
        rw [ht] at hT
        have hF : ∀ q, tm_417 q ≠ 0 → s.heap.size ≤ q := fun q h => hFc q (hMo.2 q h)
        have hFo := hFo.kp hIo hKM (hum_417 1 (by decide)) (hum_417 2 (by decide)) (hum_417 9 (by decide))
        have hKM := hKM.to0
        have hJ := hJ.kp hKM hI.1
        have hW : IW (v 1) (v 2) (v 9) (ym_417 (a 89)) := by rw [hKM.fx hX (j := 89) (by decide) (by decide)]; exact hW
        have hTh : vb 38408 0 4800 (ym_417 (a 99)) := by rw [hKM.fx hX (j := 99) (by decide) (by decide)]; exact hTh
        have hX := hI.1
        have : um_417 2 = u 2 := hum_417 2 (by decide)
        have : um_417 9 = u 9 := hum_417 9 (by decide)
        refine lv_pop hx hb dL_law_1123 rfl ?_
        refine lv_aload_n hx hb dL_law_1124 rfl (lv_at hl 2 rfl) ?_
        refine lv_aload_n hx hb dL_law_1125 rfl (lv_at hl 0 rfl) ?_
        refine lv_iload hx hb dL_law_1126 (lv_at hl 4 rfl) ?_
        refine lv_iconst (v := 1) hx hb dL_law_1128 (by decide) ?_
        refine lv_iadd hx hb dL_law_1129 ?_
        refine lv_topi (fun x_418 ex_418 => ?_)
        have hx_418 := z_add ex_418 rfl (zk (x := 1) 1 rfl) (by omega) (by omega)
        refine va_sld hx hb hXs hbl hbA hS (z_in rfl (by omega) (by omega)) dL_law_1130 ?_
        refine lq_top (v := s1) (by rw [hs1]; exact congrArg xs (by rw [z_nat (x := x_418) rfl]; omega)) ?_
        refine lv_aload_n hx hb dL_law_1131 rfl (lv_at hl 0 rfl) ?_
        refine lv_iload hx hb dL_law_1132 (lv_at hl 4 rfl) ?_
        refine lv_iconst (v := 2) hx hb dL_law_1134 (by decide) ?_
        refine lv_iadd hx hb dL_law_1135 ?_
        refine lv_topi (fun x_419 ex_419 => ?_)
        have hx_419 := z_add ex_419 rfl (zk (x := 2) 2 rfl) (by omega) (by omega)
        refine va_sld hx hb hXs hbl hbA hS (z_in rfl (by omega) (by omega)) dL_law_1136 ?_
        refine lq_top (v := s2) (by rw [hs2]; exact congrArg xs (by rw [z_nat (x := x_419) rfl]; omega)) ?_
        have hFc := tw_free hF hS hA
        refine va_calli (va_runV (As := [.int s1, .int s2]) (rest := []) ⟨hx, hb, hml, hown, hts⟩ (m_quick l dC dI ad av H.size a k tm_417 lm_417 ym_417 gm_417 v s1 s2 hJ hW) (cwV 2 hts (gi_4 (im_law _ (List.mem_of_getElem? (i := 140) rfl)) (im_law _ (List.mem_of_getElem? (i := 141) rfl)) (im_law _ (List.mem_of_getElem? (i := 142) rfl)) (im_law _ (List.mem_of_getElem? (i := 7) rfl)) im_m_quick gd_m_quick) rfl rfl rfl (by decide +kernel) ⟨Nat.le_of_ble_eq_true rfl, Nat.le_of_ble_eq_true rfl⟩) ⟨pw_blind, tw_recv hK hT (fx_50 hX) (by decide) cl_e60 rfl, pw_use hT hK hFc hS hM⟩ rfl rfl hl.1 rfl (lv_room (Nat.le_of_ble_eq_true rfl)) dL_law_1137 ⟨by show 200 + 4 * q + 0 + 0 ≤ 601024; omega, by show 60000 + 100 * q + 0 + 0 ≤ 7293034; omega⟩) hS (fun q _ h => hFc q h) hFc (fun r0 r_420 t H locs ht hvm hw hB hz1 hk1 hS => ?_)
        clear hvm hz1 hk1
        subst hw
        have hIo := hI
        obtain ⟨ym_421, gm_421, hgm_421, hggm_421, hJ, hT⟩ := hB
        rw [ht] at hT
        have hFo := hFo.m hIo hgm_421 (by decide) (hggm_421 (a 10) (by rw [fx_10 hX]; decide))
        have hI := hI.ag hgm_421 (by decide)
        have hI := hI.agg hggm_421
        have hW : IW (v 1) (v 2) (v 9) (ym_421 (a 89)) := by rw [hgm_421.at (fx_89 hX) (by decide)]; exact hW
        have hTh : vb 38408 0 4800 (ym_421 (a 99)) := by rw [hgm_421.at (fx_99 hX) (by decide)]; exact hTh
        refine lv_pop hx hb dL_law_1140 rfl ?_
        refine lv_goto (tgt := 1360) hx hb dL_law_1141 (by decide) ?_
        obtain ⟨x_422, ex_422⟩ : ∃ y : Int32, y = i4 + Int32.ofInt 10 := ⟨_, rfl⟩
        have hx_422 := z_add ex_422 rfl (zk (x := Int32.ofInt 10) 10 rfl) (by omega) (by omega)
        refine lv_iinc (v := x_422) (lv' := [(4, .int x_422), (0, .ref b), (1, .ref (a 0)), (2, .ref (a 50)), (3, .ref (a 49))]) hx hb dL_law_1360 hl (k := 4) rfl ex_422.symm (by decide) rfl (fun ls hl => ?_)
        refine lv_goto (tgt := 23) hx hb dL_law_1363 (by decide) ?_
        refine W.widen (k := 200 + 4 * (q + 1)) (n := 60000 + 100 * (q + 1)) (by omega) (by omega) ?_
        exact ih (q + 1) x_422 tm_417 lm_417 ym_421 gm_421 um_417 v H _ ls (by omega) hF hI hJ hW hTh hFo (by omega) (by omega) (by omega) (by omega) (by omega) hT hS (lv_sub hl [1, 2, 3, 4, 0] rfl)
      · refine lq_top (v := 24) t_5 ?_
        have nt_5 := z_eq rfl (zk (x := 24) 24 rfl) t_5
        refine lv_tableIn (tgt := 1144) hx hb dL_law_40 (by decide) (by decide) (off := 1104) (by decide) (by decide) ?_
        refine lv_aload_n hx hb dL_law_1144 rfl (lv_at hl 1 rfl) ?_
        refine lv_aload_n hx hb dL_law_1145 rfl (lv_at hl 0 rfl) ?_
        refine lv_iload hx hb dL_law_1146 (lv_at hl 4 rfl) ?_
        refine lv_iconst (v := 1) hx hb dL_law_1148 (by decide) ?_
        refine lv_iadd hx hb dL_law_1149 ?_
        refine lv_topi (fun x_423 ex_423 => ?_)
        have hx_423 := z_add ex_423 rfl (zk (x := 1) 1 rfl) (by omega) (by omega)
        refine va_sld hx hb hXs hbl hbA hS (z_in rfl (by omega) (by omega)) dL_law_1150 ?_
        refine lq_top (v := s1) (by rw [hs1]; exact congrArg xs (by rw [z_nat (x := x_423) rfl]; omega)) ?_
        refine lv_aload_n hx hb dL_law_1151 rfl (lv_at hl 0 rfl) ?_
        refine lv_iload hx hb dL_law_1152 (lv_at hl 4 rfl) ?_
        refine lv_iconst (v := 2) hx hb dL_law_1154 (by decide) ?_
        refine lv_iadd hx hb dL_law_1155 ?_
        refine lv_topi (fun x_424 ex_424 => ?_)
        have hx_424 := z_add ex_424 rfl (zk (x := 2) 2 rfl) (by omega) (by omega)
        refine va_sld hx hb hXs hbl hbA hS (z_in rfl (by omega) (by omega)) dL_law_1156 ?_
        refine lq_top (v := s2) (by rw [hs2]; exact congrArg xs (by rw [z_nat (x := x_424) rfl]; omega)) ?_
        have hFc := tw_free hF hS hA
        refine va_calli (va_runV (As := [.int s1, .int s2]) (rest := []) ⟨hx, hb, hml, hown, hts⟩ (c_claims l dC dI ad av H.size a k τ ln y g u s1 s2 hI ) (cwV 2 hts (gi_4 (im_law _ (List.mem_of_getElem? (i := 143) rfl)) (im_law _ (List.mem_of_getElem? (i := 144) rfl)) (im_law _ (List.mem_of_getElem? (i := 145) rfl)) (im_law _ (List.mem_of_getElem? (i := 3) rfl)) im_c_claims gd_c_claims) rfl rfl rfl (by decide +kernel) ⟨Nat.le_of_ble_eq_true rfl, Nat.le_of_ble_eq_true rfl⟩) ⟨pw_blind, tw_recv hK hT (fx_0 hX) (by decide) cl_e10 rfl, pw_use hT hK hFc hS hM⟩ rfl rfl hl.1 rfl (lv_room (Nat.le_of_ble_eq_true rfl)) dL_law_1157 ⟨by show 200 + 4 * q + 0 ≤ 601024; omega, by show 60000 + 100 * q + 0 ≤ 7293034; omega⟩) hS (fun q _ h => hFc q h) hFc (fun r0 r_425 t H locs ht hvm hw hB hz1 hk1 hS => ?_)
        clear hvm hz1 hk1
        subst hw
        have hIo := hI
        obtain ⟨um_426, hum_426, ⟨tm_426, lm_426, ym_426, gm_426, hMo, hKM, hI, hT⟩⟩ := hB
        rw [ht] at hT
        have hF : ∀ q, tm_426 q ≠ 0 → s.heap.size ≤ q := fun q h => hFc q (hMo.2 q h)
        have hFo := hFo.kp hIo hKM (hum_426 1 (by decide)) (hum_426 2 (by decide)) (hum_426 9 (by decide))
        have hKM := hKM.to0
        have hJ := hJ.kp hKM hI.1
        have hW : IW (v 1) (v 2) (v 9) (ym_426 (a 89)) := by rw [hKM.fx hX (j := 89) (by decide) (by decide)]; exact hW
        have hTh : vb 38408 0 4800 (ym_426 (a 99)) := by rw [hKM.fx hX (j := 99) (by decide) (by decide)]; exact hTh
        have hX := hI.1
        have : um_426 2 = u 2 := hum_426 2 (by decide)
        have : um_426 9 = u 9 := hum_426 9 (by decide)
        refine lv_pop hx hb dL_law_1160 rfl ?_
        refine lv_aload_n hx hb dL_law_1161 rfl (lv_at hl 2 rfl) ?_
        refine lv_aload_n hx hb dL_law_1162 rfl (lv_at hl 0 rfl) ?_
        refine lv_iload hx hb dL_law_1163 (lv_at hl 4 rfl) ?_
        refine lv_iconst (v := 1) hx hb dL_law_1165 (by decide) ?_
        refine lv_iadd hx hb dL_law_1166 ?_
        refine lv_topi (fun x_427 ex_427 => ?_)
        have hx_427 := z_add ex_427 rfl (zk (x := 1) 1 rfl) (by omega) (by omega)
        refine va_sld hx hb hXs hbl hbA hS (z_in rfl (by omega) (by omega)) dL_law_1167 ?_
        refine lq_top (v := s1) (by rw [hs1]; exact congrArg xs (by rw [z_nat (x := x_427) rfl]; omega)) ?_
        refine lv_aload_n hx hb dL_law_1168 rfl (lv_at hl 0 rfl) ?_
        refine lv_iload hx hb dL_law_1169 (lv_at hl 4 rfl) ?_
        refine lv_iconst (v := 2) hx hb dL_law_1171 (by decide) ?_
        refine lv_iadd hx hb dL_law_1172 ?_
        refine lv_topi (fun x_428 ex_428 => ?_)
        have hx_428 := z_add ex_428 rfl (zk (x := 2) 2 rfl) (by omega) (by omega)
        refine va_sld hx hb hXs hbl hbA hS (z_in rfl (by omega) (by omega)) dL_law_1173 ?_
        refine lq_top (v := s2) (by rw [hs2]; exact congrArg xs (by rw [z_nat (x := x_428) rfl]; omega)) ?_
        have hFc := tw_free hF hS hA
        refine va_calli (va_runV (As := [.int s1, .int s2]) (rest := []) ⟨hx, hb, hml, hown, hts⟩ (m_claims l dC dI ad av H.size a k tm_426 lm_426 ym_426 gm_426 v s1 s2 hJ hW) (cwV 2 hts (gi_4 (im_law _ (List.mem_of_getElem? (i := 146) rfl)) (im_law _ (List.mem_of_getElem? (i := 147) rfl)) (im_law _ (List.mem_of_getElem? (i := 148) rfl)) (im_law _ (List.mem_of_getElem? (i := 7) rfl)) im_m_claims gd_m_claims) rfl rfl rfl (by decide +kernel) ⟨Nat.le_of_ble_eq_true rfl, Nat.le_of_ble_eq_true rfl⟩) ⟨pw_blind, tw_recv hK hT (fx_50 hX) (by decide) cl_e60 rfl, pw_use hT hK hFc hS hM⟩ rfl rfl hl.1 rfl (lv_room (Nat.le_of_ble_eq_true rfl)) dL_law_1174 ⟨by show 200 + 4 * q + 0 + 0 ≤ 601024; omega, by show 60000 + 100 * q + 0 + 0 ≤ 7293034; omega⟩) hS (fun q _ h => hFc q h) hFc (fun r0 r_429 t H locs ht hvm hw hB hz1 hk1 hS => ?_)
        clear hvm hz1 hk1
        subst hw
        have hIo := hI
        obtain ⟨ym_430, gm_430, hgm_430, hggm_430, hJ, hT⟩ := hB
        rw [ht] at hT
        have hFo := hFo.m hIo hgm_430 (by decide) (hggm_430 (a 10) (by rw [fx_10 hX]; decide))
        have hI := hI.ag hgm_430 (by decide)
        have hI := hI.agg hggm_430
        have hW : IW (v 1) (v 2) (v 9) (ym_430 (a 89)) := by rw [hgm_430.at (fx_89 hX) (by decide)]; exact hW
        have hTh : vb 38408 0 4800 (ym_430 (a 99)) := by rw [hgm_430.at (fx_99 hX) (by decide)]; exact hTh
        refine lv_pop hx hb dL_law_1177 rfl ?_
        refine lv_goto (tgt := 1360) hx hb dL_law_1178 (by decide) ?_
        obtain ⟨x_431, ex_431⟩ : ∃ y : Int32, y = i4 + Int32.ofInt 10 := ⟨_, rfl⟩
        have hx_431 := z_add ex_431 rfl (zk (x := Int32.ofInt 10) 10 rfl) (by omega) (by omega)
        refine lv_iinc (v := x_431) (lv' := [(4, .int x_431), (0, .ref b), (1, .ref (a 0)), (2, .ref (a 50)), (3, .ref (a 49))]) hx hb dL_law_1360 hl (k := 4) rfl ex_431.symm (by decide) rfl (fun ls hl => ?_)
        refine lv_goto (tgt := 23) hx hb dL_law_1363 (by decide) ?_
        refine W.widen (k := 200 + 4 * (q + 1)) (n := 60000 + 100 * (q + 1)) (by omega) (by omega) ?_
        exact ih (q + 1) x_431 tm_426 lm_426 ym_430 gm_430 um_426 v H _ ls (by omega) hF hI hJ hW hTh hFo (by omega) (by omega) (by omega) (by omega) (by omega) hT hS (lv_sub hl [1, 2, 3, 4, 0] rfl)
      · refine lq_top (v := 25) t_5 ?_
        have nt_5 := z_eq rfl (zk (x := 25) 25 rfl) t_5
        refine lv_tableIn (tgt := 1181) hx hb dL_law_40 (by decide) (by decide) (off := 1141) (by decide) (by decide) ?_
        refine lv_aload_n hx hb dL_law_1181 rfl (lv_at hl 1 rfl) ?_
        refine lv_aload_n hx hb dL_law_1182 rfl (lv_at hl 0 rfl) ?_
        refine lv_iload hx hb dL_law_1183 (lv_at hl 4 rfl) ?_
        refine lv_iconst (v := 1) hx hb dL_law_1185 (by decide) ?_
        refine lv_iadd hx hb dL_law_1186 ?_
        refine lv_topi (fun x_432 ex_432 => ?_)
        have hx_432 := z_add ex_432 rfl (zk (x := 1) 1 rfl) (by omega) (by omega)
        refine va_sld hx hb hXs hbl hbA hS (z_in rfl (by omega) (by omega)) dL_law_1187 ?_
        refine lq_top (v := s1) (by rw [hs1]; exact congrArg xs (by rw [z_nat (x := x_432) rfl]; omega)) ?_
        refine lv_aload_n hx hb dL_law_1188 rfl (lv_at hl 0 rfl) ?_
        refine lv_iload hx hb dL_law_1189 (lv_at hl 4 rfl) ?_
        refine lv_iconst (v := 2) hx hb dL_law_1191 (by decide) ?_
        refine lv_iadd hx hb dL_law_1192 ?_
        refine lv_topi (fun x_433 ex_433 => ?_)
        have hx_433 := z_add ex_433 rfl (zk (x := 2) 2 rfl) (by omega) (by omega)
        refine va_sld hx hb hXs hbl hbA hS (z_in rfl (by omega) (by omega)) dL_law_1193 ?_
        refine lq_top (v := s2) (by rw [hs2]; exact congrArg xs (by rw [z_nat (x := x_433) rfl]; omega)) ?_
        have hFc := tw_free hF hS hA
        refine va_calli (va_runV (As := [.int s1, .int s2]) (rest := []) ⟨hx, hb, hml, hown, hts⟩ (c_plan l dC dI ad av H.size a k τ ln y g u s1 s2 hI ) (cwV 2 hts (gi_4 (im_law _ (List.mem_of_getElem? (i := 149) rfl)) (im_law _ (List.mem_of_getElem? (i := 150) rfl)) (im_law _ (List.mem_of_getElem? (i := 151) rfl)) (im_law _ (List.mem_of_getElem? (i := 3) rfl)) im_c_plan gd_c_plan) rfl rfl rfl (by decide +kernel) ⟨Nat.le_of_ble_eq_true rfl, Nat.le_of_ble_eq_true rfl⟩) ⟨pw_blind, tw_recv hK hT (fx_0 hX) (by decide) cl_e10 rfl, pw_use hT hK hFc hS hM⟩ rfl rfl hl.1 rfl (lv_room (Nat.le_of_ble_eq_true rfl)) dL_law_1194 ⟨by show 200 + 4 * q + 0 ≤ 601024; omega, by show 60000 + 100 * q + 0 ≤ 7293034; omega⟩) hS (fun q _ h => hFc q h) hFc (fun r0 r_434 t H locs ht hvm hw hB hz1 hk1 hS => ?_)
        clear hvm hz1 hk1
        subst hw
        have hIo := hI
        obtain ⟨um_435, hum_435, ⟨tm_435, lm_435, ym_435, gm_435, hMo, hKM, hI, hT⟩⟩ := hB
        rw [ht] at hT
        have hF : ∀ q, tm_435 q ≠ 0 → s.heap.size ≤ q := fun q h => hFc q (hMo.2 q h)
        have hFo := hFo.kp hIo hKM (hum_435 1 (by decide)) (hum_435 2 (by decide)) (hum_435 9 (by decide))
        have hKM := hKM.to0
        have hJ := hJ.kp hKM hI.1
        have hW : IW (v 1) (v 2) (v 9) (ym_435 (a 89)) := by rw [hKM.fx hX (j := 89) (by decide) (by decide)]; exact hW
        have hTh : vb 38408 0 4800 (ym_435 (a 99)) := by rw [hKM.fx hX (j := 99) (by decide) (by decide)]; exact hTh
        have hX := hI.1
        have : um_435 2 = u 2 := hum_435 2 (by decide)
        have : um_435 9 = u 9 := hum_435 9 (by decide)
        refine lv_pop hx hb dL_law_1197 rfl ?_
        refine lv_aload_n hx hb dL_law_1198 rfl (lv_at hl 2 rfl) ?_
        refine lv_aload_n hx hb dL_law_1199 rfl (lv_at hl 0 rfl) ?_
        refine lv_iload hx hb dL_law_1200 (lv_at hl 4 rfl) ?_
        refine lv_iconst (v := 1) hx hb dL_law_1202 (by decide) ?_
        refine lv_iadd hx hb dL_law_1203 ?_
        refine lv_topi (fun x_436 ex_436 => ?_)
        have hx_436 := z_add ex_436 rfl (zk (x := 1) 1 rfl) (by omega) (by omega)
        refine va_sld hx hb hXs hbl hbA hS (z_in rfl (by omega) (by omega)) dL_law_1204 ?_
        refine lq_top (v := s1) (by rw [hs1]; exact congrArg xs (by rw [z_nat (x := x_436) rfl]; omega)) ?_
        refine lv_aload_n hx hb dL_law_1205 rfl (lv_at hl 0 rfl) ?_
        refine lv_iload hx hb dL_law_1206 (lv_at hl 4 rfl) ?_
        refine lv_iconst (v := 2) hx hb dL_law_1208 (by decide) ?_
        refine lv_iadd hx hb dL_law_1209 ?_
        refine lv_topi (fun x_437 ex_437 => ?_)
        have hx_437 := z_add ex_437 rfl (zk (x := 2) 2 rfl) (by omega) (by omega)
        refine va_sld hx hb hXs hbl hbA hS (z_in rfl (by omega) (by omega)) dL_law_1210 ?_
        refine lq_top (v := s2) (by rw [hs2]; exact congrArg xs (by rw [z_nat (x := x_437) rfl]; omega)) ?_
        have hFc := tw_free hF hS hA
        refine va_calli (va_runV (As := [.int s1, .int s2]) (rest := []) ⟨hx, hb, hml, hown, hts⟩ (m_plan l dC dI ad av H.size a k tm_435 lm_435 ym_435 gm_435 v s1 s2 hJ hTh hW) (cwV 2 hts (gi_4 (im_law _ (List.mem_of_getElem? (i := 152) rfl)) (im_law _ (List.mem_of_getElem? (i := 153) rfl)) (im_law _ (List.mem_of_getElem? (i := 154) rfl)) (im_law _ (List.mem_of_getElem? (i := 7) rfl)) im_m_plan gd_m_plan) rfl rfl rfl (by decide +kernel) ⟨Nat.le_of_ble_eq_true rfl, Nat.le_of_ble_eq_true rfl⟩) ⟨pw_blind, tw_recv hK hT (fx_50 hX) (by decide) cl_e60 rfl, pw_use hT hK hFc hS hM⟩ rfl rfl hl.1 rfl (lv_room (Nat.le_of_ble_eq_true rfl)) dL_law_1211 ⟨by show 200 + 4 * q + 0 + 0 ≤ 601024; omega, by show 60000 + 100 * q + 0 + 0 ≤ 7293034; omega⟩) hS (fun q _ h => hFc q h) hFc (fun r0 r_438 t H locs ht hvm hw hB hz1 hk1 hS => ?_)
        clear hvm hz1 hk1
        subst hw
        have hIo := hI
        obtain ⟨um_439, ym_439, gm_439, hum_439, hgm_439, hggm_439, hJ, hf_440, hT⟩ := hB
        rw [ht] at hT
        have hFo := hFo.m hIo hgm_439 (by decide) (hggm_439 (a 10) (by rw [fx_10 hX]; decide))
        have hI := hI.ag hgm_439 (by decide)
        have hI := hI.agg hggm_439
        have hW : IW (um_439 1) (um_439 2) (um_439 9) (ym_439 (a 89)) := by rw [hgm_439.at (fx_89 hX) (by decide)]; exact iw_u hW (hum_439 1 (by decide)) (hum_439 2 (by decide)) (hum_439 9 (by decide))
        have hTh := hf_440
        have : um_439 2 = v 2 := hum_439 2 (by decide)
        have : um_439 9 = v 9 := hum_439 9 (by decide)
        have : um_439 3 = v 3 := hum_439 3 (by decide)
        have : um_439 10 = v 10 := hum_439 10 (by decide)
        refine lv_pop hx hb dL_law_1214 rfl ?_
        refine lv_goto (tgt := 1360) hx hb dL_law_1215 (by decide) ?_
        obtain ⟨x_441, ex_441⟩ : ∃ y : Int32, y = i4 + Int32.ofInt 10 := ⟨_, rfl⟩
        have hx_441 := z_add ex_441 rfl (zk (x := Int32.ofInt 10) 10 rfl) (by omega) (by omega)
        refine lv_iinc (v := x_441) (lv' := [(4, .int x_441), (0, .ref b), (1, .ref (a 0)), (2, .ref (a 50)), (3, .ref (a 49))]) hx hb dL_law_1360 hl (k := 4) rfl ex_441.symm (by decide) rfl (fun ls hl => ?_)
        refine lv_goto (tgt := 23) hx hb dL_law_1363 (by decide) ?_
        refine W.widen (k := 200 + 4 * (q + 1)) (n := 60000 + 100 * (q + 1)) (by omega) (by omega) ?_
        exact ih (q + 1) x_441 tm_435 lm_435 ym_439 gm_439 um_435 um_439 H _ ls (by omega) hF hI hJ hW hTh hFo (by omega) (by omega) (by omega) (by omega) (by omega) hT hS (lv_sub hl [1, 2, 3, 4, 0] rfl)
      · refine lq_top (v := 26) t_5 ?_
        have nt_5 := z_eq rfl (zk (x := 26) 26 rfl) t_5
        refine lv_tableIn (tgt := 1218) hx hb dL_law_40 (by decide) (by decide) (off := 1178) (by decide) (by decide) ?_
        refine lv_aload_n hx hb dL_law_1218 rfl (lv_at hl 1 rfl) ?_
        refine lv_aload_n hx hb dL_law_1219 rfl (lv_at hl 0 rfl) ?_
        refine lv_iload hx hb dL_law_1220 (lv_at hl 4 rfl) ?_
        refine lv_iconst (v := 1) hx hb dL_law_1222 (by decide) ?_
        refine lv_iadd hx hb dL_law_1223 ?_
        refine lv_topi (fun x_442 ex_442 => ?_)
        have hx_442 := z_add ex_442 rfl (zk (x := 1) 1 rfl) (by omega) (by omega)
        refine va_sld hx hb hXs hbl hbA hS (z_in rfl (by omega) (by omega)) dL_law_1224 ?_
        refine lq_top (v := s1) (by rw [hs1]; exact congrArg xs (by rw [z_nat (x := x_442) rfl]; omega)) ?_
        refine lv_aload_n hx hb dL_law_1225 rfl (lv_at hl 0 rfl) ?_
        refine lv_iload hx hb dL_law_1226 (lv_at hl 4 rfl) ?_
        refine lv_iconst (v := 2) hx hb dL_law_1228 (by decide) ?_
        refine lv_iadd hx hb dL_law_1229 ?_
        refine lv_topi (fun x_443 ex_443 => ?_)
        have hx_443 := z_add ex_443 rfl (zk (x := 2) 2 rfl) (by omega) (by omega)
        refine va_sld hx hb hXs hbl hbA hS (z_in rfl (by omega) (by omega)) dL_law_1230 ?_
        refine lq_top (v := s2) (by rw [hs2]; exact congrArg xs (by rw [z_nat (x := x_443) rfl]; omega)) ?_
        have hFc := tw_free hF hS hA
        refine va_calli (va_runV (As := [.int s1, .int s2]) (rest := []) ⟨hx, hb, hml, hown, hts⟩ (c_lateness l dC dI ad av H.size a k τ ln y g u s1 s2 hI ) (cwV 2 hts (gi_4 (im_law _ (List.mem_of_getElem? (i := 155) rfl)) (im_law _ (List.mem_of_getElem? (i := 156) rfl)) (im_law _ (List.mem_of_getElem? (i := 157) rfl)) (im_law _ (List.mem_of_getElem? (i := 3) rfl)) im_c_lateness gd_c_lateness) rfl rfl rfl (by decide +kernel) ⟨Nat.le_of_ble_eq_true rfl, Nat.le_of_ble_eq_true rfl⟩) ⟨pw_blind, tw_recv hK hT (fx_0 hX) (by decide) cl_e10 rfl, pw_use hT hK hFc hS hM⟩ rfl rfl hl.1 rfl (lv_room (Nat.le_of_ble_eq_true rfl)) dL_law_1231 ⟨by show 200 + 4 * q + 0 ≤ 601024; omega, by show 60000 + 100 * q + 0 ≤ 7293034; omega⟩) hS (fun q _ h => hFc q h) hFc (fun r0 r_444 t H locs ht hvm hw hB hz1 hk1 hS => ?_)
        clear hvm hz1 hk1
        subst hw
        have hIo := hI
        obtain ⟨um_445, hum_445, ⟨tm_445, lm_445, ym_445, gm_445, hMo, hKM, hI, hT⟩⟩ := hB
        rw [ht] at hT
        have hF : ∀ q, tm_445 q ≠ 0 → s.heap.size ≤ q := fun q h => hFc q (hMo.2 q h)
        have hFo := hFo.kp hIo hKM (hum_445 1 (by decide)) (hum_445 2 (by decide)) (hum_445 9 (by decide))
        have hKM := hKM.to0
        have hJ := hJ.kp hKM hI.1
        have hW : IW (v 1) (v 2) (v 9) (ym_445 (a 89)) := by rw [hKM.fx hX (j := 89) (by decide) (by decide)]; exact hW
        have hTh : vb 38408 0 4800 (ym_445 (a 99)) := by rw [hKM.fx hX (j := 99) (by decide) (by decide)]; exact hTh
        have hX := hI.1
        have : um_445 2 = u 2 := hum_445 2 (by decide)
        have : um_445 9 = u 9 := hum_445 9 (by decide)
        refine lv_pop hx hb dL_law_1234 rfl ?_
        refine lv_aload_n hx hb dL_law_1235 rfl (lv_at hl 2 rfl) ?_
        refine lv_aload_n hx hb dL_law_1236 rfl (lv_at hl 0 rfl) ?_
        refine lv_iload hx hb dL_law_1237 (lv_at hl 4 rfl) ?_
        refine lv_iconst (v := 1) hx hb dL_law_1239 (by decide) ?_
        refine lv_iadd hx hb dL_law_1240 ?_
        refine lv_topi (fun x_446 ex_446 => ?_)
        have hx_446 := z_add ex_446 rfl (zk (x := 1) 1 rfl) (by omega) (by omega)
        refine va_sld hx hb hXs hbl hbA hS (z_in rfl (by omega) (by omega)) dL_law_1241 ?_
        refine lq_top (v := s1) (by rw [hs1]; exact congrArg xs (by rw [z_nat (x := x_446) rfl]; omega)) ?_
        refine lv_aload_n hx hb dL_law_1242 rfl (lv_at hl 0 rfl) ?_
        refine lv_iload hx hb dL_law_1243 (lv_at hl 4 rfl) ?_
        refine lv_iconst (v := 2) hx hb dL_law_1245 (by decide) ?_
        refine lv_iadd hx hb dL_law_1246 ?_
        refine lv_topi (fun x_447 ex_447 => ?_)
        have hx_447 := z_add ex_447 rfl (zk (x := 2) 2 rfl) (by omega) (by omega)
        refine va_sld hx hb hXs hbl hbA hS (z_in rfl (by omega) (by omega)) dL_law_1247 ?_
        refine lq_top (v := s2) (by rw [hs2]; exact congrArg xs (by rw [z_nat (x := x_447) rfl]; omega)) ?_
        have hFc := tw_free hF hS hA
        refine va_calli (va_runV (As := [.int s1, .int s2]) (rest := []) ⟨hx, hb, hml, hown, hts⟩ (m_lateness l dC dI ad av H.size a k tm_445 lm_445 ym_445 gm_445 v s1 s2 hJ hTh hW) (cwV 2 hts (gi_4 (im_law _ (List.mem_of_getElem? (i := 158) rfl)) (im_law _ (List.mem_of_getElem? (i := 159) rfl)) (im_law _ (List.mem_of_getElem? (i := 160) rfl)) (im_law _ (List.mem_of_getElem? (i := 7) rfl)) im_m_lateness gd_m_lateness) rfl rfl rfl (by decide +kernel) ⟨Nat.le_of_ble_eq_true rfl, Nat.le_of_ble_eq_true rfl⟩) ⟨pw_blind, tw_recv hK hT (fx_50 hX) (by decide) cl_e60 rfl, pw_use hT hK hFc hS hM⟩ rfl rfl hl.1 rfl (lv_room (Nat.le_of_ble_eq_true rfl)) dL_law_1248 ⟨by show 200 + 4 * q + 0 + 0 ≤ 601024; omega, by show 60000 + 100 * q + 0 + 0 ≤ 7293034; omega⟩) hS (fun q _ h => hFc q h) hFc (fun r0 r_448 t H locs ht hvm hw hB hz1 hk1 hS => ?_)
        clear hvm hz1 hk1
        subst hw
        have hIo := hI
        obtain ⟨ym_449, gm_449, hgm_449, hggm_449, hJ, hf_450, hT⟩ := hB
        rw [ht] at hT
        have hFo := hFo.m hIo hgm_449 (by decide) (hggm_449 (a 10) (by rw [fx_10 hX]; decide))
        have hI := hI.ag hgm_449 (by decide)
        have hI := hI.agg hggm_449
        have hW : IW (v 1) (v 2) (v 9) (ym_449 (a 89)) := by rw [hgm_449.at (fx_89 hX) (by decide)]; exact hW
        have hTh := hf_450
        refine lv_pop hx hb dL_law_1251 rfl ?_
        refine lv_goto (tgt := 1360) hx hb dL_law_1252 (by decide) ?_
        obtain ⟨x_451, ex_451⟩ : ∃ y : Int32, y = i4 + Int32.ofInt 10 := ⟨_, rfl⟩
        have hx_451 := z_add ex_451 rfl (zk (x := Int32.ofInt 10) 10 rfl) (by omega) (by omega)
        refine lv_iinc (v := x_451) (lv' := [(4, .int x_451), (0, .ref b), (1, .ref (a 0)), (2, .ref (a 50)), (3, .ref (a 49))]) hx hb dL_law_1360 hl (k := 4) rfl ex_451.symm (by decide) rfl (fun ls hl => ?_)
        refine lv_goto (tgt := 23) hx hb dL_law_1363 (by decide) ?_
        refine W.widen (k := 200 + 4 * (q + 1)) (n := 60000 + 100 * (q + 1)) (by omega) (by omega) ?_
        exact ih (q + 1) x_451 tm_445 lm_445 ym_449 gm_449 um_445 v H _ ls (by omega) hF hI hJ hW hTh hFo (by omega) (by omega) (by omega) (by omega) (by omega) hT hS (lv_sub hl [1, 2, 3, 4, 0] rfl)
      · refine lq_top (v := 27) t_5 ?_
        have nt_5 := z_eq rfl (zk (x := 27) 27 rfl) t_5
        refine lv_tableIn (tgt := 1255) hx hb dL_law_40 (by decide) (by decide) (off := 1215) (by decide) (by decide) ?_
        refine lv_aload_n hx hb dL_law_1255 rfl (lv_at hl 1 rfl) ?_
        refine lv_aload_n hx hb dL_law_1256 rfl (lv_at hl 0 rfl) ?_
        refine lv_iload hx hb dL_law_1257 (lv_at hl 4 rfl) ?_
        refine lv_iconst (v := 1) hx hb dL_law_1259 (by decide) ?_
        refine lv_iadd hx hb dL_law_1260 ?_
        refine lv_topi (fun x_452 ex_452 => ?_)
        have hx_452 := z_add ex_452 rfl (zk (x := 1) 1 rfl) (by omega) (by omega)
        refine va_sld hx hb hXs hbl hbA hS (z_in rfl (by omega) (by omega)) dL_law_1261 ?_
        refine lq_top (v := s1) (by rw [hs1]; exact congrArg xs (by rw [z_nat (x := x_452) rfl]; omega)) ?_
        refine lv_aload_n hx hb dL_law_1262 rfl (lv_at hl 0 rfl) ?_
        refine lv_iload hx hb dL_law_1263 (lv_at hl 4 rfl) ?_
        refine lv_iconst (v := 2) hx hb dL_law_1265 (by decide) ?_
        refine lv_iadd hx hb dL_law_1266 ?_
        refine lv_topi (fun x_453 ex_453 => ?_)
        have hx_453 := z_add ex_453 rfl (zk (x := 2) 2 rfl) (by omega) (by omega)
        refine va_sld hx hb hXs hbl hbA hS (z_in rfl (by omega) (by omega)) dL_law_1267 ?_
        refine lq_top (v := s2) (by rw [hs2]; exact congrArg xs (by rw [z_nat (x := x_453) rfl]; omega)) ?_
        have hFc := tw_free hF hS hA
        refine va_calli (va_runV (As := [.int s1, .int s2]) (rest := []) ⟨hx, hb, hml, hown, hts⟩ (c_tried l dC dI ad av H.size a k τ ln y g u s1 s2 hI ) (cwV 2 hts (gi_4 (im_law _ (List.mem_of_getElem? (i := 161) rfl)) (im_law _ (List.mem_of_getElem? (i := 162) rfl)) (im_law _ (List.mem_of_getElem? (i := 163) rfl)) (im_law _ (List.mem_of_getElem? (i := 3) rfl)) im_c_tried gd_c_tried) rfl rfl rfl (by decide +kernel) ⟨Nat.le_of_ble_eq_true rfl, Nat.le_of_ble_eq_true rfl⟩) ⟨pw_blind, tw_recv hK hT (fx_0 hX) (by decide) cl_e10 rfl, pw_use hT hK hFc hS hM⟩ rfl rfl hl.1 rfl (lv_room (Nat.le_of_ble_eq_true rfl)) dL_law_1268 ⟨by show 200 + 4 * q + 0 ≤ 601024; omega, by show 60000 + 100 * q + 0 ≤ 7293034; omega⟩) hS (fun q _ h => hFc q h) hFc (fun r0 r_454 t H locs ht hvm hw hB hz1 hk1 hS => ?_)
        clear hvm hz1 hk1
        subst hw
        have hIo := hI
        obtain ⟨um_455, hum_455, ⟨tm_455, lm_455, ym_455, gm_455, hMo, hKM, hI, hT⟩⟩ := hB
        rw [ht] at hT
        have hF : ∀ q, tm_455 q ≠ 0 → s.heap.size ≤ q := fun q h => hFc q (hMo.2 q h)
        have hFo := hFo.kp hIo hKM (hum_455 1 (by decide)) (hum_455 2 (by decide)) (hum_455 9 (by decide))
        have hKM := hKM.to0
        have hJ := hJ.kp hKM hI.1
        have hW : IW (v 1) (v 2) (v 9) (ym_455 (a 89)) := by rw [hKM.fx hX (j := 89) (by decide) (by decide)]; exact hW
        have hTh : vb 38408 0 4800 (ym_455 (a 99)) := by rw [hKM.fx hX (j := 99) (by decide) (by decide)]; exact hTh
        have hX := hI.1
        have : um_455 2 = u 2 := hum_455 2 (by decide)
        have : um_455 9 = u 9 := hum_455 9 (by decide)
        refine lv_pop hx hb dL_law_1271 rfl ?_
        refine lv_aload_n hx hb dL_law_1272 rfl (lv_at hl 2 rfl) ?_
        refine lv_aload_n hx hb dL_law_1273 rfl (lv_at hl 0 rfl) ?_
        refine lv_iload hx hb dL_law_1274 (lv_at hl 4 rfl) ?_
        refine lv_iconst (v := 1) hx hb dL_law_1276 (by decide) ?_
        refine lv_iadd hx hb dL_law_1277 ?_
        refine lv_topi (fun x_456 ex_456 => ?_)
        have hx_456 := z_add ex_456 rfl (zk (x := 1) 1 rfl) (by omega) (by omega)
        refine va_sld hx hb hXs hbl hbA hS (z_in rfl (by omega) (by omega)) dL_law_1278 ?_
        refine lq_top (v := s1) (by rw [hs1]; exact congrArg xs (by rw [z_nat (x := x_456) rfl]; omega)) ?_
        refine lv_aload_n hx hb dL_law_1279 rfl (lv_at hl 0 rfl) ?_
        refine lv_iload hx hb dL_law_1280 (lv_at hl 4 rfl) ?_
        refine lv_iconst (v := 2) hx hb dL_law_1282 (by decide) ?_
        refine lv_iadd hx hb dL_law_1283 ?_
        refine lv_topi (fun x_457 ex_457 => ?_)
        have hx_457 := z_add ex_457 rfl (zk (x := 2) 2 rfl) (by omega) (by omega)
        refine va_sld hx hb hXs hbl hbA hS (z_in rfl (by omega) (by omega)) dL_law_1284 ?_
        refine lq_top (v := s2) (by rw [hs2]; exact congrArg xs (by rw [z_nat (x := x_457) rfl]; omega)) ?_
        have hFc := tw_free hF hS hA
        refine va_calli (va_runV (As := [.int s1, .int s2]) (rest := []) ⟨hx, hb, hml, hown, hts⟩ (m_tried l dC dI ad av H.size a k tm_455 lm_455 ym_455 gm_455 v s1 s2 hJ h10 hW) (cwV 2 hts (gi_4 (im_law _ (List.mem_of_getElem? (i := 164) rfl)) (im_law _ (List.mem_of_getElem? (i := 165) rfl)) (im_law _ (List.mem_of_getElem? (i := 166) rfl)) (im_law _ (List.mem_of_getElem? (i := 7) rfl)) im_m_tried gd_m_tried) rfl rfl rfl (by decide +kernel) ⟨Nat.le_of_ble_eq_true rfl, Nat.le_of_ble_eq_true rfl⟩) ⟨pw_blind, tw_recv hK hT (fx_50 hX) (by decide) cl_e60 rfl, pw_use hT hK hFc hS hM⟩ rfl rfl hl.1 rfl (lv_room (Nat.le_of_ble_eq_true rfl)) dL_law_1285 ⟨by show 200 + 4 * q + 0 + 0 ≤ 601024; omega, by show 60000 + 100 * q + 0 + 0 ≤ 7293034; omega⟩) hS (fun q _ h => hFc q h) hFc (fun r0 r_458 t H locs ht hvm hw hB hz1 hk1 hS => ?_)
        clear hvm hz1 hk1
        subst hw
        have hIo := hI
        obtain ⟨um_459, ym_459, gm_459, hum_459, hgm_459, hggm_459, hJ, hW, hf_460, hf_461, hT⟩ := hB
        rw [ht] at hT
        have hFo := hFo.m hIo hgm_459 (by decide) (hggm_459 (a 10) (by rw [fx_10 hX]; decide))
        have hI := hI.ag hgm_459 (by decide)
        have hI := hI.agg hggm_459
        have hTh : vb 38408 0 4800 (ym_459 (a 99)) := by rw [hgm_459.at (fx_99 hX) (by decide)]; exact hTh
        have : um_459 2 = v 2 := hum_459 2 (by decide)
        have : um_459 3 = v 3 := hum_459 3 (by decide)
        refine lv_pop hx hb dL_law_1288 rfl ?_
        refine lv_goto (tgt := 1360) hx hb dL_law_1289 (by decide) ?_
        obtain ⟨x_462, ex_462⟩ : ∃ y : Int32, y = i4 + Int32.ofInt 10 := ⟨_, rfl⟩
        have hx_462 := z_add ex_462 rfl (zk (x := Int32.ofInt 10) 10 rfl) (by omega) (by omega)
        refine lv_iinc (v := x_462) (lv' := [(4, .int x_462), (0, .ref b), (1, .ref (a 0)), (2, .ref (a 50)), (3, .ref (a 49))]) hx hb dL_law_1360 hl (k := 4) rfl ex_462.symm (by decide) rfl (fun ls hl => ?_)
        refine lv_goto (tgt := 23) hx hb dL_law_1363 (by decide) ?_
        refine W.widen (k := 200 + 4 * (q + 1)) (n := 60000 + 100 * (q + 1)) (by omega) (by omega) ?_
        exact ih (q + 1) x_462 tm_455 lm_455 ym_459 gm_459 um_455 um_459 H _ ls (by omega) hF hI hJ hW hTh hFo (by omega) (by omega) (by omega) (by omega) (by omega) hT hS (lv_sub hl [1, 2, 3, 4, 0] rfl)
      · refine lq_top (v := 28) t_5 ?_
        have nt_5 := z_eq rfl (zk (x := 28) 28 rfl) t_5
        refine lv_tableIn (tgt := 1292) hx hb dL_law_40 (by decide) (by decide) (off := 1252) (by decide) (by decide) ?_
        refine lv_aload_n hx hb dL_law_1292 rfl (lv_at hl 1 rfl) ?_
        refine lv_aload_n hx hb dL_law_1293 rfl (lv_at hl 0 rfl) ?_
        refine lv_iload hx hb dL_law_1294 (lv_at hl 4 rfl) ?_
        refine lv_iconst (v := 1) hx hb dL_law_1296 (by decide) ?_
        refine lv_iadd hx hb dL_law_1297 ?_
        refine lv_topi (fun x_463 ex_463 => ?_)
        have hx_463 := z_add ex_463 rfl (zk (x := 1) 1 rfl) (by omega) (by omega)
        refine va_sld hx hb hXs hbl hbA hS (z_in rfl (by omega) (by omega)) dL_law_1298 ?_
        refine lq_top (v := s1) (by rw [hs1]; exact congrArg xs (by rw [z_nat (x := x_463) rfl]; omega)) ?_
        refine lv_aload_n hx hb dL_law_1299 rfl (lv_at hl 0 rfl) ?_
        refine lv_iload hx hb dL_law_1300 (lv_at hl 4 rfl) ?_
        refine lv_iconst (v := 2) hx hb dL_law_1302 (by decide) ?_
        refine lv_iadd hx hb dL_law_1303 ?_
        refine lv_topi (fun x_464 ex_464 => ?_)
        have hx_464 := z_add ex_464 rfl (zk (x := 2) 2 rfl) (by omega) (by omega)
        refine va_sld hx hb hXs hbl hbA hS (z_in rfl (by omega) (by omega)) dL_law_1304 ?_
        refine lq_top (v := s2) (by rw [hs2]; exact congrArg xs (by rw [z_nat (x := x_464) rfl]; omega)) ?_
        refine lv_aload_n hx hb dL_law_1305 rfl (lv_at hl 3 rfl) ?_
        have hFc := tw_free hF hS hA
        refine va_calli (vx_runSW (As := [.ref (a 0), .int s1, .int s2, .ref (a 49)]) (rest := []) ⟨hx, hb, hml, hown, hts⟩ (k_ill l hst dC dI ad av H.size a k τ ln y g u s1 s2 hI ) (vx_cwSW 4 hts (gi_3 (im_law _ (List.mem_of_getElem? (i := 167) rfl)) (im_law _ (List.mem_of_getElem? (i := 168) rfl)) (im_law _ (List.mem_of_getElem? (i := 52) rfl)) im_k_ill gd_k_ill) rfl rfl rfl (by decide +kernel) ⟨Nat.le_of_ble_eq_true rfl, Nat.le_of_ble_eq_true rfl⟩) ⟨pw_blind, pw_use hT hK hFc hS hM⟩ rfl rfl hl.1 rfl (lv_room (Nat.le_of_ble_eq_true rfl)) dL_law_1306 ⟨by show 200 + 4 * q + 1 ≤ 601024; omega, by show 60000 + 100 * q + 6 ≤ 7293034; omega⟩) hS (fun q _ h => hFc q h) hFc (fun r0 r_465 t H locs ht hvm hw hB hz1 hk1 hS => ?_)
        clear hvm hz1 hk1
        subst hw
        have hIo := hI
        obtain ⟨um_466, hum_466, ⟨tm_466, lm_466, ym_466, gm_466, hMo, hKM, hI, hT⟩⟩ := hB
        rw [ht] at hT
        have hF : ∀ q, tm_466 q ≠ 0 → s.heap.size ≤ q := fun q h => hFc q (hMo.2 q h)
        have hFo := hFo.kp hIo hKM (hum_466 1 (by decide)) (hum_466 2 (by decide)) (hum_466 9 (by decide))
        have hKM := hKM.to0
        have hJ := hJ.kp hKM hI.1
        have hW : IW (v 1) (v 2) (v 9) (ym_466 (a 89)) := by rw [hKM.fx hX (j := 89) (by decide) (by decide)]; exact hW
        have hTh : vb 38408 0 4800 (ym_466 (a 99)) := by rw [hKM.fx hX (j := 99) (by decide) (by decide)]; exact hTh
        have hX := hI.1
        have : um_466 2 = u 2 := hum_466 2 (by decide)
        have : um_466 9 = u 9 := hum_466 9 (by decide)
        refine lv_istore (lv' := [(5, .int r_465), (0, .ref b), (1, .ref (a 0)), (2, .ref (a 50)), (3, .ref (a 49)), (4, .int i4)]) hx hb dL_law_1309 hl (by decide) rfl (fun ls hl => ?_)
        refine lv_aload_n hx hb dL_law_1311 rfl (lv_at hl 3 rfl) ?_
        refine lv_aload_n hx hb dL_law_1312 rfl (lv_at hl 1 rfl) ?_
        refine lv_iload hx hb dL_law_1313 (lv_at hl 5 rfl) ?_
        refine lv_iconst (v := 1) hx hb dL_law_1315 (by decide) ?_
        refine lv_iadd hx hb dL_law_1316 ?_
        refine lv_topi (fun x_467 ex_467 => ?_)
        have hx_467 := z_add ex_467 rfl (zk (x := 1) 1 rfl) (by omega) (by omega)
        refine va_sld hx hb hXs hbl hbA hS (z_in rfl (by omega) (by omega)) dL_law_1317 ?_
        refine lq_top (v := s1) (by rw [hs1]; exact congrArg xs (by rw [z_nat (x := x_467) rfl]; omega)) ?_
        refine lv_aload_n hx hb dL_law_1318 rfl (lv_at hl 1 rfl) ?_
        refine lv_iload hx hb dL_law_1319 (lv_at hl 5 rfl) ?_
        refine lv_iconst (v := 2) hx hb dL_law_1321 (by decide) ?_
        refine lv_iadd hx hb dL_law_1322 ?_
        refine lv_topi (fun x_468 ex_468 => ?_)
        have hx_468 := z_add ex_468 rfl (zk (x := 2) 2 rfl) (by omega) (by omega)
        refine va_sld hx hb hXs hbl hbA hS (z_in rfl (by omega) (by omega)) dL_law_1323 ?_
        refine lq_top (v := s2) (by rw [hs2]; exact congrArg xs (by rw [z_nat (x := x_468) rfl]; omega)) ?_
        have hFc := tw_free hF hS hA
        refine va_calli (va_runV (As := [.int s1, .int s2]) (rest := []) ⟨hx, hb, hml, hown, hts⟩ (m_ill l dC dI ad av H.size a k tm_466 lm_466 ym_466 gm_466 v s1 s2 hJ h3 hW) (cwV 2 hts (gi_4 (im_law _ (List.mem_of_getElem? (i := 169) rfl)) (im_law _ (List.mem_of_getElem? (i := 170) rfl)) (im_law _ (List.mem_of_getElem? (i := 171) rfl)) (im_law _ (List.mem_of_getElem? (i := 7) rfl)) im_m_ill gd_m_ill) rfl rfl rfl (by decide +kernel) ⟨Nat.le_of_ble_eq_true rfl, Nat.le_of_ble_eq_true rfl⟩) ⟨pw_blind, tw_recv hK hT (fx_50 hX) (by decide) cl_e60 rfl, pw_use hT hK hFc hS hM⟩ rfl rfl hl.1 rfl (lv_room (Nat.le_of_ble_eq_true rfl)) dL_law_1324 ⟨by show 200 + 4 * q + 1 + 0 ≤ 601024; omega, by show 60000 + 100 * q + 6 + 0 ≤ 7293034; omega⟩) hS (fun q _ h => hFc q h) hFc (fun r0 r_469 t H locs ht hvm hw hB hz1 hk1 hS => ?_)
        clear hvm hz1 hk1
        subst hw
        have hIo := hI
        obtain ⟨um_470, ym_470, gm_470, hum_470, hgm_470, hggm_470, hJ, hW, hf_471, hf_472, hT⟩ := hB
        rw [ht] at hT
        have hFo := hFo.m hIo hgm_470 (by decide) (hggm_470 (a 10) (by rw [fx_10 hX]; decide))
        have hI := hI.ag hgm_470 (by decide)
        have hI := hI.agg hggm_470
        have hTh : vb 38408 0 4800 (ym_470 (a 99)) := by rw [hgm_470.at (fx_99 hX) (by decide)]; exact hTh
        have : um_470 2 = v 2 := hum_470 2 (by decide)
        have : um_470 10 = v 10 := hum_470 10 (by decide)
        refine lv_istore (lv' := [(6, .int r_469), (5, .int r_465), (0, .ref b), (1, .ref (a 0)), (2, .ref (a 50)), (3, .ref (a 49)), (4, .int i4)]) hx hb dL_law_1327 hl (by decide) rfl (fun ls hl => ?_)
        refine lv_goto (tgt := 1360) hx hb dL_law_1329 (by decide) ?_
        obtain ⟨x_473, ex_473⟩ : ∃ y : Int32, y = i4 + Int32.ofInt 10 := ⟨_, rfl⟩
        have hx_473 := z_add ex_473 rfl (zk (x := Int32.ofInt 10) 10 rfl) (by omega) (by omega)
        refine lv_iinc (v := x_473) (lv' := [(4, .int x_473), (6, .int r_469), (5, .int r_465), (0, .ref b), (1, .ref (a 0)), (2, .ref (a 50)), (3, .ref (a 49))]) hx hb dL_law_1360 hl (k := 6) rfl ex_473.symm (by decide) rfl (fun ls hl => ?_)
        refine lv_goto (tgt := 23) hx hb dL_law_1363 (by decide) ?_
        refine W.widen (k := 200 + 4 * (q + 1)) (n := 60000 + 100 * (q + 1)) (by omega) (by omega) ?_
        exact ih (q + 1) x_473 tm_466 lm_466 ym_470 gm_470 um_466 um_470 H _ ls (by omega) hF hI hJ hW hTh hFo (by omega) (by omega) (by omega) (by omega) (by omega) hT hS (lv_sub hl [3, 4, 5, 6, 0] rfl)
      · refine lq_top (v := 29) t_5 ?_
        have nt_5 := z_eq rfl (zk (x := 29) 29 rfl) t_5
        refine lv_tableIn (tgt := 1332) hx hb dL_law_40 (by decide) (by decide) (off := 1292) (by decide) (by decide) ?_
        refine lv_aload_n hx hb dL_law_1332 rfl (lv_at hl 1 rfl) ?_
        refine lv_aload_n hx hb dL_law_1333 rfl (lv_at hl 0 rfl) ?_
        refine lv_iload hx hb dL_law_1334 (lv_at hl 4 rfl) ?_
        refine lv_iconst (v := 1) hx hb dL_law_1336 (by decide) ?_
        refine lv_iadd hx hb dL_law_1337 ?_
        refine lv_topi (fun x_474 ex_474 => ?_)
        have hx_474 := z_add ex_474 rfl (zk (x := 1) 1 rfl) (by omega) (by omega)
        refine va_sld hx hb hXs hbl hbA hS (z_in rfl (by omega) (by omega)) dL_law_1338 ?_
        refine lq_top (v := s1) (by rw [hs1]; exact congrArg xs (by rw [z_nat (x := x_474) rfl]; omega)) ?_
        refine lv_aload_n hx hb dL_law_1339 rfl (lv_at hl 3 rfl) ?_
        have hFc := tw_free hF hS hA
        refine va_calli (vx_runSW (As := [.ref (a 0), .int s1, .ref (a 49)]) (rest := []) ⟨hx, hb, hml, hown, hts⟩ (k_row l hst dC dI ad av H.size a k τ ln y g u s1 hI ) (vx_cwSW 3 hts (gi_3 (im_law _ (List.mem_of_getElem? (i := 172) rfl)) (im_law _ (List.mem_of_getElem? (i := 173) rfl)) (im_law _ (List.mem_of_getElem? (i := 52) rfl)) im_k_row gd_k_row) rfl rfl rfl (by decide +kernel) ⟨Nat.le_of_ble_eq_true rfl, Nat.le_of_ble_eq_true rfl⟩) ⟨pw_blind, pw_use hT hK hFc hS hM⟩ rfl rfl hl.1 rfl (lv_room (Nat.le_of_ble_eq_true rfl)) dL_law_1340 ⟨by show 200 + 4 * q + 1 ≤ 601024; omega, by show 60000 + 100 * q + 6 ≤ 7293034; omega⟩) hS (fun q _ h => hFc q h) hFc (fun r0 r_475 t H locs ht hvm hw hB hz1 hk1 hS => ?_)
        clear hvm hz1 hk1
        subst hw
        have hIo := hI
        obtain ⟨um_476, hum_476, ⟨tm_476, lm_476, ym_476, gm_476, hMo, hKM, hI, hT⟩⟩ := hB
        rw [ht] at hT
        have hF : ∀ q, tm_476 q ≠ 0 → s.heap.size ≤ q := fun q h => hFc q (hMo.2 q h)
        have hFo := hFo.kp hIo hKM (hum_476 1 (by decide)) (hum_476 2 (by decide)) (hum_476 9 (by decide))
        have hKM := hKM.to0
        have hJ := hJ.kp hKM hI.1
        have hW : IW (v 1) (v 2) (v 9) (ym_476 (a 89)) := by rw [hKM.fx hX (j := 89) (by decide) (by decide)]; exact hW
        have hTh : vb 38408 0 4800 (ym_476 (a 99)) := by rw [hKM.fx hX (j := 99) (by decide) (by decide)]; exact hTh
        have hX := hI.1
        have : um_476 2 = u 2 := hum_476 2 (by decide)
        have : um_476 9 = u 9 := hum_476 9 (by decide)
        refine lv_istore (lv' := [(5, .int r_475), (0, .ref b), (1, .ref (a 0)), (2, .ref (a 50)), (3, .ref (a 49)), (4, .int i4)]) hx hb dL_law_1343 hl (by decide) rfl (fun ls hl => ?_)
        refine lv_aload_n hx hb dL_law_1345 rfl (lv_at hl 3 rfl) ?_
        refine lv_aload_n hx hb dL_law_1346 rfl (lv_at hl 1 rfl) ?_
        refine lv_iload hx hb dL_law_1347 (lv_at hl 5 rfl) ?_
        refine lv_iconst (v := 1) hx hb dL_law_1349 (by decide) ?_
        refine lv_iadd hx hb dL_law_1350 ?_
        refine lv_topi (fun x_477 ex_477 => ?_)
        have hx_477 := z_add ex_477 rfl (zk (x := 1) 1 rfl) (by omega) (by omega)
        refine va_sld hx hb hXs hbl hbA hS (z_in rfl (by omega) (by omega)) dL_law_1351 ?_
        refine lq_top (v := s1) (by rw [hs1]; exact congrArg xs (by rw [z_nat (x := x_477) rfl]; omega)) ?_
        have hFc := tw_free hF hS hA
        refine va_calli (va_runV (As := [.int s1]) (rest := []) ⟨hx, hb, hml, hown, hts⟩ (m_row l dC dI ad av H.size a k tm_476 lm_476 ym_476 gm_476 v s1 hJ hW) (cwV 1 hts (gi_4 (im_law _ (List.mem_of_getElem? (i := 174) rfl)) (im_law _ (List.mem_of_getElem? (i := 175) rfl)) (im_law _ (List.mem_of_getElem? (i := 176) rfl)) (im_law _ (List.mem_of_getElem? (i := 7) rfl)) im_m_row gd_m_row) rfl rfl rfl (by decide +kernel) ⟨Nat.le_of_ble_eq_true rfl, Nat.le_of_ble_eq_true rfl⟩) ⟨pw_blind, tw_recv hK hT (fx_50 hX) (by decide) cl_e60 rfl, pw_use hT hK hFc hS hM⟩ rfl rfl hl.1 rfl (lv_room (Nat.le_of_ble_eq_true rfl)) dL_law_1352 ⟨by show 200 + 4 * q + 1 + 0 ≤ 601024; omega, by show 60000 + 100 * q + 6 + 0 ≤ 7293034; omega⟩) hS (fun q _ h => hFc q h) hFc (fun r0 r_478 t H locs ht hvm hw hB hz1 hk1 hS => ?_)
        clear hvm hz1 hk1
        subst hw
        have hIo := hI
        obtain ⟨ym_479, gm_479, hgm_479, hggm_479, hJ, hT⟩ := hB
        rw [ht] at hT
        have hFo := hFo.m hIo hgm_479 (by decide) (hggm_479 (a 10) (by rw [fx_10 hX]; decide))
        have hI := hI.ag hgm_479 (by decide)
        have hI := hI.agg hggm_479
        have hW : IW (v 1) (v 2) (v 9) (ym_479 (a 89)) := by rw [hgm_479.at (fx_89 hX) (by decide)]; exact hW
        have hTh : vb 38408 0 4800 (ym_479 (a 99)) := by rw [hgm_479.at (fx_99 hX) (by decide)]; exact hTh
        refine lv_istore (lv' := [(6, .int r_478), (5, .int r_475), (0, .ref b), (1, .ref (a 0)), (2, .ref (a 50)), (3, .ref (a 49)), (4, .int i4)]) hx hb dL_law_1355 hl (by decide) rfl (fun ls hl => ?_)
        refine lv_goto (tgt := 1360) hx hb dL_law_1357 (by decide) ?_
        obtain ⟨x_480, ex_480⟩ : ∃ y : Int32, y = i4 + Int32.ofInt 10 := ⟨_, rfl⟩
        have hx_480 := z_add ex_480 rfl (zk (x := Int32.ofInt 10) 10 rfl) (by omega) (by omega)
        refine lv_iinc (v := x_480) (lv' := [(4, .int x_480), (6, .int r_478), (5, .int r_475), (0, .ref b), (1, .ref (a 0)), (2, .ref (a 50)), (3, .ref (a 49))]) hx hb dL_law_1360 hl (k := 6) rfl ex_480.symm (by decide) rfl (fun ls hl => ?_)
        refine lv_goto (tgt := 23) hx hb dL_law_1363 (by decide) ?_
        refine W.widen (k := 200 + 4 * (q + 1)) (n := 60000 + 100 * (q + 1)) (by omega) (by omega) ?_
        exact ih (q + 1) x_480 tm_476 lm_476 ym_479 gm_479 um_476 v H _ ls (by omega) hF hI hJ hW hTh hFo (by omega) (by omega) (by omega) (by omega) (by omega) hT hS (lv_sub hl [3, 4, 5, 6, 0] rfl)
      · refine lv_tableOut (tgt := 1360) hx hb dL_law_40 t_5 (by decide) ?_
        obtain ⟨x_481, ex_481⟩ : ∃ y : Int32, y = i4 + Int32.ofInt 10 := ⟨_, rfl⟩
        have hx_481 := z_add ex_481 rfl (zk (x := Int32.ofInt 10) 10 rfl) (by omega) (by omega)
        refine lv_iinc (v := x_481) (lv' := [(4, .int x_481), (0, .ref b), (1, .ref (a 0)), (2, .ref (a 50)), (3, .ref (a 49))]) hx hb dL_law_1360 hl (k := 4) rfl ex_481.symm (by decide) rfl (fun ls hl => ?_)
        refine lv_goto (tgt := 23) hx hb dL_law_1363 (by decide) ?_
        refine W.widen (k := 200 + 4 * (q + 1)) (n := 60000 + 100 * (q + 1)) (by omega) (by omega) ?_
        exact ih (q + 1) x_481 τ ln y g u v H _ ls (by omega) hF hI hJ hW hTh hFo (by omega) (by omega) (by omega) (by omega) (by omega) hT hS (lv_sub hl [1, 2, 3, 4, 0] rfl)
