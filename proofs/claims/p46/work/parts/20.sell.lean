set_option maxRecDepth 100000 in
set_option maxHeartbeats 4000000 in
theorem ct_X9_takeOrder_o {l : Launch} {G : Gl} {h : Hp} {N : Nat → Int32} {ns np no c : Nat} {f d : Nat → Int32} (ok : Ok G) (H : ShW G h 1000 N ns np no) (R : RsW G h c f d) (hm : h (Ad G 1) = some (.inr (9, [.ref (Ad G 1000), .ref (Ad G 2)]))) (x y z : Int32) (hx : ¬ (0 ≤ x ∧ x < 3)) : CtP l G mX9_takeOrder 4 (0) (0) [.ref (Ad G 1), .int x, .int y, .int z] h (some (.int (ansC (pBaker N x y z)))) (fun h' => SmP G h (pBaker N x y z) N ns np no c f d h') := by
  obtain ⟨hsh, has, hap, hao, -, hns, hnp, hno, bs, bp, bo, hS, hP, hO, -⟩ := id H
  obtain ⟨gp, fs, fp, fo, S0, F0⟩ := id H.sh
  have hr2 := R.1
  have tns : (N 2).toInt = ns := by rw [hns]; exact nI_toInt (by omega)
  have tnp : (N 3).toInt = np := by rw [hnp]; exact nI_toInt (by omega)
  have tno : (N 4).toInt = no := by rw [hno]; exact nI_toInt (by omega)
  refine Ct.of (L := [(0, _), (1, _), (2, _), (3, _)]) (by decide) (ble rfl) rfl ?_
  refine x_iload_n 1 dX9_takeOrder_0 rfl rfl ?_
  refine x_cS1 (As := [.int _]) (ct_X2_numbered_out hx) vX9_50 rfl rfl ⟨ble rfl, ble rfl⟩ (ble rfl) dX9_takeOrder_1 rfl ?_
  first | refine x_astore (L' := [(4, _), (0, _), (1, _), (2, _), (3, _)]) dX9_takeOrder_4 (ble rfl) rfl ?_ | refine x_astoreN (L' := [(4, _), (0, _), (1, _), (2, _), (3, _)]) dX9_takeOrder_4 (ble rfl) rfl ?_
  first | refine x_aload 0 dX9_takeOrder_6 rfl ?_ | refine x_aloadN 0 dX9_takeOrder_6 rfl ?_
  refine x_ifnullN 33 dX9_takeOrder_8 (by decide) ?_
  refine x_bipush (v := -2) dX9_takeOrder_33 rfl ?_
  refine x_iret rfl dX9_takeOrder_35 ?_
  have e : pBaker N x y z = cod (-2) := by unfold pBaker; (repeat' split) <;> first | rfl | (exfalso; (simp only [Int32.lt_iff_toInt_lt, Int32.le_iff_toInt_le, ← Int32.toInt_inj, Int32.toInt_zero, t_1, t_2, t_3, t_4, t_5, t_6, t_7, t_8, t_9, t_10, t_11, t_12, t_13, t_14, t_16, t_20, t_30, t_32, t_48, t_50, t_57, t_60, t_90, t_99, t_120, t_126, t_m1, t_m2, t_m3, t_m4] at *; omega))
  rw [e]
  exact ⟨rfl, rfl⟩
set_option maxRecDepth 100000 in
set_option maxHeartbeats 4000000 in
theorem ct_X9_takeOrder_i {l : Launch} {G : Gl} {h : Hp} {N : Nat → Int32} {ns np no c : Nat} {f d : Nat → Int32} (ok : Ok G) (H : ShW G h 1000 N ns np no) (R : RsW G h c f d) (hm : h (Ad G 1) = some (.inr (9, [.ref (Ad G 1000), .ref (Ad G 2)]))) {k : Nat} (hk : k < 3) (y z : Int32) : CtP l G mX9_takeOrder 4 (0) (0) [.ref (Ad G 1), .int (nI k), .int y, .int z] h (some (.int (ansC (pBaker N (nI k) y z)))) (fun h' => SmP G h (pBaker N (nI k) y z) N ns np no c f d h') := by
  obtain ⟨hsh, has, hap, hao, -, hns, hnp, hno, bs, bp, bo, hS, hP, hO, -⟩ := id H
  obtain ⟨gp, fs, fp, fo, S0, F0⟩ := id H.sh
  have hr2 := R.1
  have tns : (N 2).toInt = ns := by rw [hns]; exact nI_toInt (by omega)
  have tnp : (N 3).toInt = np := by rw [hnp]; exact nI_toInt (by omega)
  have tno : (N 4).toInt = no := by rw [hno]; exact nI_toInt (by omega)
  have hck := kOf_nI (j := k) (by omega)
  have tk := nI_toInt (n := k) (by omega)
  have hcn : kOf (N 4) = no := by rw [hno]; exact kOf_nI (by omega)
  refine Ct.of (L := [(0, _), (1, _), (2, _), (3, _)]) (by decide) (ble rfl) rfl ?_
  refine x_iload_n 1 dX9_takeOrder_0 rfl rfl ?_
  refine x_cS1 (As := [.int _]) (ct_X2_numbered_in (by assumption)) vX9_50 rfl rfl ⟨ble rfl, ble rfl⟩ (ble rfl) dX9_takeOrder_1 rfl ?_
  first | refine x_astore (L' := [(4, _), (0, _), (1, _), (2, _), (3, _)]) dX9_takeOrder_4 (ble rfl) rfl ?_ | refine x_astoreN (L' := [(4, _), (0, _), (1, _), (2, _), (3, _)]) dX9_takeOrder_4 (ble rfl) rfl ?_
  first | refine x_aload 0 dX9_takeOrder_6 rfl ?_ | refine x_aloadN 0 dX9_takeOrder_6 rfl ?_
  refine x_ifnull 33 dX9_takeOrder_8 (by decide) ?_
  refine x_iload_n 3 dX9_takeOrder_11 rfl rfl ?_
  refine x_iconst (v := 1) dX9_takeOrder_12 rfl ?_
  refine x_icmp_lt 33 dX9_takeOrder_13 (by decide) (fun c13 => ?_) (fun c13 => ?_)
  · refine x_bipush (v := -2) dX9_takeOrder_33 rfl ?_
    refine x_iret rfl dX9_takeOrder_35 ?_
    have e : pBaker N (nI k) y z = cod (-2) := by unfold pBaker; rw [hcn]; (repeat' split) <;> first | rfl | (exfalso; (simp only [Int32.lt_iff_toInt_lt, Int32.le_iff_toInt_le, ← Int32.toInt_inj, Int32.toInt_zero, t_1, t_2, t_3, t_4, t_5, t_6, t_7, t_8, t_9, t_10, t_11, t_12, t_13, t_14, t_16, t_20, t_30, t_32, t_48, t_50, t_57, t_60, t_90, t_99, t_120, t_126, t_m1, t_m2, t_m3, t_m4] at *; omega))
    rw [e]
    exact ⟨rfl, rfl⟩
  · refine x_iload_n 3 dX9_takeOrder_16 rfl rfl ?_
    refine x_bipush (v := 9) dX9_takeOrder_17 rfl ?_
    refine x_icmp_gt 33 dX9_takeOrder_19 (by decide) (fun c19 => ?_) (fun c19 => ?_)
    · refine x_bipush (v := -2) dX9_takeOrder_33 rfl ?_
      refine x_iret rfl dX9_takeOrder_35 ?_
      have e : pBaker N (nI k) y z = cod (-2) := by unfold pBaker; rw [hcn]; (repeat' split) <;> first | rfl | (exfalso; (simp only [Int32.lt_iff_toInt_lt, Int32.le_iff_toInt_le, ← Int32.toInt_inj, Int32.toInt_zero, t_1, t_2, t_3, t_4, t_5, t_6, t_7, t_8, t_9, t_10, t_11, t_12, t_13, t_14, t_16, t_20, t_30, t_32, t_48, t_50, t_57, t_60, t_90, t_99, t_120, t_126, t_m1, t_m2, t_m3, t_m4] at *; omega))
      rw [e]
      exact ⟨rfl, rfl⟩
    · refine x_iload_n 4 dX9_takeOrder_22 rfl rfl ?_
      refine x_iconst (v := 1) dX9_takeOrder_23 rfl ?_
      refine x_icmp_lt 33 dX9_takeOrder_24 (by decide) (fun c24 => ?_) (fun c24 => ?_)
      · refine x_bipush (v := -2) dX9_takeOrder_33 rfl ?_
        refine x_iret rfl dX9_takeOrder_35 ?_
        have e : pBaker N (nI k) y z = cod (-2) := by unfold pBaker; rw [hcn]; (repeat' split) <;> first | rfl | (exfalso; (simp only [Int32.lt_iff_toInt_lt, Int32.le_iff_toInt_le, ← Int32.toInt_inj, Int32.toInt_zero, t_1, t_2, t_3, t_4, t_5, t_6, t_7, t_8, t_9, t_10, t_11, t_12, t_13, t_14, t_16, t_20, t_30, t_32, t_48, t_50, t_57, t_60, t_90, t_99, t_120, t_126, t_m1, t_m2, t_m3, t_m4] at *; omega))
        rw [e]
        exact ⟨rfl, rfl⟩
      · refine x_iload_n 4 dX9_takeOrder_27 rfl rfl ?_
        refine x_bipush (v := 99) dX9_takeOrder_28 rfl ?_
        refine x_icmp_le 36 dX9_takeOrder_30 (by decide) (fun c30 => ?_) (fun c30 => ?_)
        · first | refine x_aload_n 1 dX9_takeOrder_36 rfl rfl ?_ | refine x_aload_nN 1 dX9_takeOrder_36 rfl rfl ?_
          refine x_get fX9_12 rfl dX9_takeOrder_37 (by with_reducible repeat first | assumption | exact hset_s | refine hget_n (by first | assumption | exact Ne.symm (by assumption) | exact nA (by assumption) (by omega) (by omega) (by omega)) ?_) (by rfl) ?_
          refine x_get fX9_129 rfl dX9_takeOrder_40 (by with_reducible repeat first | assumption | exact hset_s | refine hget_n (by first | assumption | exact Ne.symm (by assumption) | exact nA (by assumption) (by omega) (by omega) (by omega)) ?_) (by rfl) ?_
          refine x_istore (L' := [(5, _), (4, _), (0, _), (1, _), (2, _), (3, _)]) dX9_takeOrder_43 (ble rfl) rfl ?_
          refine x_iload 0 dX9_takeOrder_45 rfl ?_
          refine x_bipush (v := 8) dX9_takeOrder_47 rfl ?_
          refine x_icmp_lt 63 dX9_takeOrder_49 (by decide) (fun c49 => ?_) (fun c49 => ?_)
          · have hb : no < 8 := by (simp only [Int32.lt_iff_toInt_lt, Int32.le_iff_toInt_le, ← Int32.toInt_inj, Int32.toInt_zero, t_1, t_2, t_3, t_4, t_5, t_6, t_7, t_8, t_9, t_10, t_11, t_12, t_13, t_14, t_16, t_20, t_30, t_32, t_48, t_50, t_57, t_60, t_90, t_99, t_120, t_126, t_m1, t_m2, t_m3, t_m4] at *; omega)
            first | refine x_aload_n 2 dX9_takeOrder_63 rfl rfl ?_ | refine x_aload_nN 2 dX9_takeOrder_63 rfl rfl ?_
            refine x_get fX9_12 rfl dX9_takeOrder_64 (by with_reducible repeat first | assumption | exact hset_s | refine hget_n (by first | assumption | exact Ne.symm (by assumption) | exact nA (by assumption) (by omega) (by omega) (by omega)) ?_) (by rfl) ?_
            refine x_get fX9_132 rfl dX9_takeOrder_67 (by with_reducible repeat first | assumption | exact hset_s | refine hget_n (by first | assumption | exact Ne.symm (by assumption) | exact nA (by assumption) (by omega) (by omega) (by omega)) ?_) (by rfl) ?_
            refine x_iload 0 dX9_takeOrder_70 rfl ?_
            refine x_aald 5 rfl dX9_takeOrder_72 (by with_reducible repeat first | assumption | exact hset_s | refine hget_n (by first | assumption | exact Ne.symm (by assumption) | exact nA (by assumption) (by omega) (by omega) (by omega)) ?_) (by rw [hno]; exact vp_in_nI (by omega) (by omega)) (v := .ref (Ad G (1000 + 50 + no))) (by rw [hno, nI_clamp (by omega)]; rfl) ?_
            obtain ⟨k0, t0, r0, m0, o0, ho0⟩ := F0.2.2.2.2.2.2.2.2.2.2.2 no (by omega)
            have hq := (S0.2.2.2.2.2.2.2 no (by omega)).trans (congrArg some ho0)
            first | refine x_aload 1 dX9_takeOrder_73 rfl ?_ | refine x_aloadN 1 dX9_takeOrder_73 rfl ?_
            refine x_iload_n 4 dX9_takeOrder_75 rfl rfl ?_
            refine x_iload_n 5 dX9_takeOrder_76 rfl rfl ?_
            refine x_cV0 (As := [.ref _, .int _, .int _]) (ct_X3_arrive (by with_reducible repeat first | assumption | exact hset_s | refine hget_n (by first | assumption | exact Ne.symm (by assumption) | exact nA (by assumption) (by omega) (by omega) (by omega)) ?_) (aA ok (by omega))) vX9_136 rfl (x_recv (by with_reducible repeat first | assumption | exact hset_s | refine hget_n (by first | assumption | exact Ne.symm (by assumption) | exact nA (by assumption) (by omega) (by omega) (by omega)) ?_) rfl) rfl ⟨ble rfl, ble rfl⟩ (ble rfl) dX9_takeOrder_77 rfl ?_
            first | refine x_aload_n 2 dX9_takeOrder_80 rfl rfl ?_ | refine x_aload_nN 2 dX9_takeOrder_80 rfl rfl ?_
            refine x_get fX9_12 rfl dX9_takeOrder_81 (by with_reducible repeat first | assumption | exact hset_s | refine hget_n (by first | assumption | exact Ne.symm (by assumption) | exact nA (by assumption) (by omega) (by omega) (by omega)) ?_) (by rfl) ?_
            refine x_dup dX9_takeOrder_84 rfl ?_
            refine x_get fX9_129 rfl dX9_takeOrder_85 (by with_reducible repeat first | assumption | exact hset_s | refine hget_n (by first | assumption | exact Ne.symm (by assumption) | exact nA (by assumption) (by omega) (by omega) (by omega)) ?_) (by rfl) ?_
            refine x_iconst (v := 1) dX9_takeOrder_88 rfl ?_
            refine x_iadd dX9_takeOrder_89 ?_
            refine x_put fX9_129 rfl rfl rfl rfl dX9_takeOrder_90 (by with_reducible repeat first | assumption | exact hset_s | refine hget_n (by first | assumption | exact Ne.symm (by assumption) | exact nA (by assumption) (by omega) (by omega) (by omega)) ?_) (by exact ble rfl) (by first | assumption | exact aA (by assumption) (by omega)) ?_
            refine x_iload 0 dX9_takeOrder_93 rfl ?_
            refine x_iret rfl dX9_takeOrder_95 ?_
            have e : pBaker N (nI k) y z = okk (N 4) (upd (upd (upd (upd (upd (upd N (188 + 5 * no) (nI k)) (189 + 5 * no) y) (190 + 5 * no) z) (191 + 5 * no) (-4)) (192 + 5 * no) 0) 4 (N 4 + 1)) := by unfold pBaker; rw [hcn]; (repeat' split) <;> first | rfl | (exfalso; (simp only [Int32.lt_iff_toInt_lt, Int32.le_iff_toInt_le, ← Int32.toInt_inj, Int32.toInt_zero, t_1, t_2, t_3, t_4, t_5, t_6, t_7, t_8, t_9, t_10, t_11, t_12, t_13, t_14, t_16, t_20, t_30, t_32, t_48, t_50, t_57, t_60, t_90, t_99, t_120, t_126, t_m1, t_m2, t_m3, t_m4] at *; omega))
            rw [e]
            refine ⟨rfl, ⟨ns, np, no + 1, ShW.mk2 (((S0.ord ok (by omega) (show no < 8 by omega) _).shop ok (by omega) _).cg ?_ (fun _ _ => rfl) (fun _ _ => rfl) (fun _ _ => rfl)) F0 ⟨?_, ?_, ?_, by omega, by omega, by omega⟩ ?_ ?_ ?_⟩, Fr.st (Fr.st (Fr.rf) (inB_2 (by omega))) (inB_0 (by omega))⟩
            · unfold eShop; simp (disch := omega) only [upd_ne, upd_eq]; try rfl
            · simp (disch := omega) only [upd_ne, upd_eq]; exact hns
            · simp (disch := omega) only [upd_ne, upd_eq]; exact hnp
            · simp (disch := omega) only [upd_ne, upd_eq]; rw [hno]; exact nI_1 no
            · intro i1 hi1; exact Or.inl ⟨rfl, fun hi2 => ⟨hi2, fun q2 hq2 => by simp (disch := omega) only [upd_ne, upd_eq]⟩⟩
            · intro i1 hi1; exact Or.inl ⟨rfl, fun hi2 => ⟨hi2, fun q2 hq2 => by simp (disch := omega) only [upd_ne, upd_eq]⟩⟩
            · intro i1 hi1; by_cases q : i1 = no
              · refine Or.inr ?_; rw [q]; simp only [va_u_eq]; rw [show kOf ((upd (upd (upd (upd (upd (upd N (188 + 5 * no) (nI k)) (189 + 5 * no) y) (190 + 5 * no) z) (191 + 5 * no) (-4)) (192 + 5 * no) 0) 4 (N 4 + 1)) (188 + 5 * no)) = k by simp (disch := omega) only [upd_ne, upd_eq]; exact hck]; exact ⟨by unfold oC; simp (disch := omega) only [upd_ne, upd_eq]; rw [hck] <;> rfl, hk⟩
              · refine Or.inl ⟨by simp only [va_u_ne q], fun hi2 => ⟨by omega, fun q2 hq2 => by simp (disch := omega) only [upd_ne, upd_eq]⟩⟩
          · first | refine x_aload_n 2 dX9_takeOrder_52 rfl rfl ?_ | refine x_aload_nN 2 dX9_takeOrder_52 rfl rfl ?_
            refine x_get fX9_21 rfl dX9_takeOrder_53 (by with_reducible repeat first | assumption | exact hset_s | refine hget_n (by first | assumption | exact Ne.symm (by assumption) | exact nA (by assumption) (by omega) (by omega) (by omega)) ?_) (by rfl) ?_
            refine x_iconst (v := 1) dX9_takeOrder_56 rfl ?_
            refine x_bipush (v := 8) dX9_takeOrder_57 rfl ?_
            refine x_pV1 (mc1 := 0) (ms1 := 0) (As := [.int _, .int _]) (ct_X5_refuse (by assumption) (by assumption) _ _) vX9_29 rfl (x_recv (by with_reducible repeat first | assumption | exact hset_s | refine hget_n (by first | assumption | exact Ne.symm (by assumption) | exact nA (by assumption) (by omega) (by omega) (by omega)) ?_) rfl) rfl ⟨ble rfl, ble rfl⟩ (ble rfl) dX9_takeOrder_59 rfl ⟨by omega, by omega⟩ (fun h59 q59 => ?_)
            obtain ⟨f1, d1, R1, r1, r2, F1⟩ := q59
            have hm1 := F1 _ _ hm (nB ok (by omega) (by omega) (by omega))
            refine x_iret rfl dX9_takeOrder_62 ?_
            have e : pBaker N (nI k) y z = rfs 1 8 0 0 := by unfold pBaker; rw [hcn]; (repeat' split) <;> first | rfl | (exfalso; (simp only [Int32.lt_iff_toInt_lt, Int32.le_iff_toInt_le, ← Int32.toInt_inj, Int32.toInt_zero, t_1, t_2, t_3, t_4, t_5, t_6, t_7, t_8, t_9, t_10, t_11, t_12, t_13, t_14, t_16, t_20, t_30, t_32, t_48, t_50, t_57, t_60, t_90, t_99, t_120, t_126, t_m1, t_m2, t_m3, t_m4] at *; omega))
            rw [e]
            exact ⟨rfl, ⟨f1, d1, fun _ => R1, fun q => absurd rfl q, r1, r2⟩, F1⟩
        · refine x_bipush (v := -2) dX9_takeOrder_33 rfl ?_
          refine x_iret rfl dX9_takeOrder_35 ?_
          have e : pBaker N (nI k) y z = cod (-2) := by unfold pBaker; rw [hcn]; (repeat' split) <;> first | rfl | (exfalso; (simp only [Int32.lt_iff_toInt_lt, Int32.le_iff_toInt_le, ← Int32.toInt_inj, Int32.toInt_zero, t_1, t_2, t_3, t_4, t_5, t_6, t_7, t_8, t_9, t_10, t_11, t_12, t_13, t_14, t_16, t_20, t_30, t_32, t_48, t_50, t_57, t_60, t_90, t_99, t_120, t_126, t_m1, t_m2, t_m3, t_m4] at *; omega))
          rw [e]
          exact ⟨rfl, rfl⟩
set_option maxRecDepth 100000 in
set_option maxHeartbeats 4000000 in
theorem ct_X9_handOver_oo {l : Launch} {G : Gl} {h : Hp} {N : Nat → Int32} {ns np no c : Nat} {f d : Nat → Int32} (ok : Ok G) (H : ShW G h 1000 N ns np no) (R : RsW G h c f d) (hm : h (Ad G 1) = some (.inr (9, [.ref (Ad G 1000), .ref (Ad G 2)]))) (x y : Int32) (hx : ¬ (0 ≤ x ∧ x < N 3)) (hy : ¬ (0 ≤ y ∧ y < N 4)) : CtP l G mX9_handOver 5 (0) (0) [.ref (Ad G 1), .int x, .int y] h (some (.int (ansC (pSell N x y)))) (fun h' => SmP G h (pSell N x y) N ns np no c f d h') := by
  obtain ⟨hsh, has, hap, hao, -, hns, hnp, hno, bs, bp, bo, hS, hP, hO, -⟩ := id H
  obtain ⟨gp, fs, fp, fo, S0, F0⟩ := id H.sh
  have hr2 := R.1
  have tns : (N 2).toInt = ns := by rw [hns]; exact nI_toInt (by omega)
  have tnp : (N 3).toInt = np := by rw [hnp]; exact nI_toInt (by omega)
  have tno : (N 4).toInt = no := by rw [hno]; exact nI_toInt (by omega)
  refine Ct.of (L := [(0, _), (1, _), (2, _)]) (by decide) (ble rfl) rfl ?_
  first | refine x_aload_n 0 dX9_handOver_0 rfl rfl ?_ | refine x_aload_nN 0 dX9_handOver_0 rfl rfl ?_
  refine x_get fX9_12 rfl dX9_handOver_1 (by with_reducible repeat first | assumption | exact hset_s | refine hget_n (by first | assumption | exact Ne.symm (by assumption) | exact nA (by assumption) (by omega) (by omega) (by omega)) ?_) (by rfl) ?_
  refine x_iload_n 1 dX9_handOver_4 rfl rfl ?_
  refine x_cV1 (As := [.int _]) (ct_X8_potAt_out ok (by omega) H hx) vX9_77 rfl (x_recv (by with_reducible repeat first | assumption | exact hset_s | refine hget_n (by first | assumption | exact Ne.symm (by assumption) | exact nA (by assumption) (by omega) (by omega) (by omega)) ?_) rfl) rfl ⟨ble rfl, ble rfl⟩ (ble rfl) dX9_handOver_5 rfl ?_
  first | refine x_astore_n (L' := [(3, _), (0, _), (1, _), (2, _)]) dX9_handOver_8 rfl (ble rfl) rfl ?_ | refine x_astore_nN (L' := [(3, _), (0, _), (1, _), (2, _)]) dX9_handOver_8 rfl (ble rfl) rfl ?_
  first | refine x_aload_n 1 dX9_handOver_9 rfl rfl ?_ | refine x_aload_nN 1 dX9_handOver_9 rfl rfl ?_
  refine x_get fX9_12 rfl dX9_handOver_10 (by with_reducible repeat first | assumption | exact hset_s | refine hget_n (by first | assumption | exact Ne.symm (by assumption) | exact nA (by assumption) (by omega) (by omega) (by omega)) ?_) (by rfl) ?_
  refine x_iload_n 3 dX9_handOver_13 rfl rfl ?_
  refine x_cV1 (As := [.int _]) (ct_X8_orderAt_out ok (by omega) H hy) vX9_139 rfl (x_recv (by with_reducible repeat first | assumption | exact hset_s | refine hget_n (by first | assumption | exact Ne.symm (by assumption) | exact nA (by assumption) (by omega) (by omega) (by omega)) ?_) rfl) rfl ⟨ble rfl, ble rfl⟩ (ble rfl) dX9_handOver_14 rfl ?_
  first | refine x_astore (L' := [(4, _), (3, _), (0, _), (1, _), (2, _)]) dX9_handOver_17 (ble rfl) rfl ?_ | refine x_astoreN (L' := [(4, _), (3, _), (0, _), (1, _), (2, _)]) dX9_handOver_17 (ble rfl) rfl ?_
  first | refine x_aload_n 1 dX9_handOver_19 rfl rfl ?_ | refine x_aload_nN 1 dX9_handOver_19 rfl rfl ?_
  refine x_ifnullN 28 dX9_handOver_20 (by decide) ?_
  refine x_iconst (v := -1) dX9_handOver_28 rfl ?_
  refine x_iret rfl dX9_handOver_29 ?_
  have e : pSell N x y = cod (-1) := by unfold pSell; (repeat' split) <;> first | rfl | (exfalso; (simp only [Int32.lt_iff_toInt_lt, Int32.le_iff_toInt_le, ← Int32.toInt_inj, Int32.toInt_zero, t_1, t_2, t_3, t_4, t_5, t_6, t_7, t_8, t_9, t_10, t_11, t_12, t_13, t_14, t_16, t_20, t_30, t_32, t_48, t_50, t_57, t_60, t_90, t_99, t_120, t_126, t_m1, t_m2, t_m3, t_m4] at *; omega))
  rw [e]
  exact ⟨rfl, rfl⟩
set_option maxRecDepth 100000 in
set_option maxHeartbeats 4000000 in
theorem ct_X9_handOver_oi {l : Launch} {G : Gl} {h : Hp} {N : Nat → Int32} {ns np no c : Nat} {f d : Nat → Int32} (ok : Ok G) (H : ShW G h 1000 N ns np no) (R : RsW G h c f d) (hm : h (Ad G 1) = some (.inr (9, [.ref (Ad G 1000), .ref (Ad G 2)]))) (x : Int32) {j : Nat} (hx : ¬ (0 ≤ x ∧ x < N 3)) (hj : j < no) : CtP l G mX9_handOver 5 (0) (0) [.ref (Ad G 1), .int x, .int (nI j)] h (some (.int (ansC (pSell N x (nI j))))) (fun h' => SmP G h (pSell N x (nI j)) N ns np no c f d h') := by
  obtain ⟨hsh, has, hap, hao, -, hns, hnp, hno, bs, bp, bo, hS, hP, hO, -⟩ := id H
  obtain ⟨gp, fs, fp, fo, S0, F0⟩ := id H.sh
  have hr2 := R.1
  have tns : (N 2).toInt = ns := by rw [hns]; exact nI_toInt (by omega)
  have tnp : (N 3).toInt = np := by rw [hnp]; exact nI_toInt (by omega)
  have tno : (N 4).toInt = no := by rw [hno]; exact nI_toInt (by omega)
  have hcj := kOf_nI (j := j) (by omega)
  have tj := nI_toInt (n := j) (by omega)
  refine Ct.of (L := [(0, _), (1, _), (2, _)]) (by decide) (ble rfl) rfl ?_
  first | refine x_aload_n 0 dX9_handOver_0 rfl rfl ?_ | refine x_aload_nN 0 dX9_handOver_0 rfl rfl ?_
  refine x_get fX9_12 rfl dX9_handOver_1 (by with_reducible repeat first | assumption | exact hset_s | refine hget_n (by first | assumption | exact Ne.symm (by assumption) | exact nA (by assumption) (by omega) (by omega) (by omega)) ?_) (by rfl) ?_
  refine x_iload_n 1 dX9_handOver_4 rfl rfl ?_
  refine x_cV1 (As := [.int _]) (ct_X8_potAt_out ok (by omega) H hx) vX9_77 rfl (x_recv (by with_reducible repeat first | assumption | exact hset_s | refine hget_n (by first | assumption | exact Ne.symm (by assumption) | exact nA (by assumption) (by omega) (by omega) (by omega)) ?_) rfl) rfl ⟨ble rfl, ble rfl⟩ (ble rfl) dX9_handOver_5 rfl ?_
  first | refine x_astore_n (L' := [(3, _), (0, _), (1, _), (2, _)]) dX9_handOver_8 rfl (ble rfl) rfl ?_ | refine x_astore_nN (L' := [(3, _), (0, _), (1, _), (2, _)]) dX9_handOver_8 rfl (ble rfl) rfl ?_
  first | refine x_aload_n 1 dX9_handOver_9 rfl rfl ?_ | refine x_aload_nN 1 dX9_handOver_9 rfl rfl ?_
  refine x_get fX9_12 rfl dX9_handOver_10 (by with_reducible repeat first | assumption | exact hset_s | refine hget_n (by first | assumption | exact Ne.symm (by assumption) | exact nA (by assumption) (by omega) (by omega) (by omega)) ?_) (by rfl) ?_
  refine x_iload_n 3 dX9_handOver_13 rfl rfl ?_
  refine x_cV1 (As := [.int _]) (ct_X8_orderAt_in ok (by omega) H hj) vX9_139 rfl (x_recv (by with_reducible repeat first | assumption | exact hset_s | refine hget_n (by first | assumption | exact Ne.symm (by assumption) | exact nA (by assumption) (by omega) (by omega) (by omega)) ?_) rfl) rfl ⟨ble rfl, ble rfl⟩ (ble rfl) dX9_handOver_14 rfl ?_
  first | refine x_astore (L' := [(4, _), (3, _), (0, _), (1, _), (2, _)]) dX9_handOver_17 (ble rfl) rfl ?_ | refine x_astoreN (L' := [(4, _), (3, _), (0, _), (1, _), (2, _)]) dX9_handOver_17 (ble rfl) rfl ?_
  first | refine x_aload_n 1 dX9_handOver_19 rfl rfl ?_ | refine x_aload_nN 1 dX9_handOver_19 rfl rfl ?_
  refine x_ifnullN 28 dX9_handOver_20 (by decide) ?_
  refine x_iconst (v := -1) dX9_handOver_28 rfl ?_
  refine x_iret rfl dX9_handOver_29 ?_
  have e : pSell N x (nI j) = cod (-1) := by unfold pSell; (repeat' split) <;> first | rfl | (exfalso; (simp only [Int32.lt_iff_toInt_lt, Int32.le_iff_toInt_le, ← Int32.toInt_inj, Int32.toInt_zero, t_1, t_2, t_3, t_4, t_5, t_6, t_7, t_8, t_9, t_10, t_11, t_12, t_13, t_14, t_16, t_20, t_30, t_32, t_48, t_50, t_57, t_60, t_90, t_99, t_120, t_126, t_m1, t_m2, t_m3, t_m4] at *; omega))
  rw [e]
  exact ⟨rfl, rfl⟩
set_option maxRecDepth 100000 in
set_option maxHeartbeats 4000000 in
theorem ct_X9_handOver_io {l : Launch} {G : Gl} {h : Hp} {N : Nat → Int32} {ns np no c : Nat} {f d : Nat → Int32} (ok : Ok G) (H : ShW G h 1000 N ns np no) (R : RsW G h c f d) (hm : h (Ad G 1) = some (.inr (9, [.ref (Ad G 1000), .ref (Ad G 2)]))) {i : Nat} (hi : i < np) (y : Int32) (hy : ¬ (0 ≤ y ∧ y < N 4)) : CtP l G mX9_handOver 5 (0) (0) [.ref (Ad G 1), .int (nI i), .int y] h (some (.int (ansC (pSell N (nI i) y)))) (fun h' => SmP G h (pSell N (nI i) y) N ns np no c f d h') := by
  obtain ⟨hsh, has, hap, hao, -, hns, hnp, hno, bs, bp, bo, hS, hP, hO, -⟩ := id H
  obtain ⟨gp, fs, fp, fo, S0, F0⟩ := id H.sh
  have hr2 := R.1
  have tns : (N 2).toInt = ns := by rw [hns]; exact nI_toInt (by omega)
  have tnp : (N 3).toInt = np := by rw [hnp]; exact nI_toInt (by omega)
  have tno : (N 4).toInt = no := by rw [hno]; exact nI_toInt (by omega)
  have hcl := kOf_nI (j := i) (by omega)
  have ti := nI_toInt (n := i) (by omega)
  refine Ct.of (L := [(0, _), (1, _), (2, _)]) (by decide) (ble rfl) rfl ?_
  first | refine x_aload_n 0 dX9_handOver_0 rfl rfl ?_ | refine x_aload_nN 0 dX9_handOver_0 rfl rfl ?_
  refine x_get fX9_12 rfl dX9_handOver_1 (by with_reducible repeat first | assumption | exact hset_s | refine hget_n (by first | assumption | exact Ne.symm (by assumption) | exact nA (by assumption) (by omega) (by omega) (by omega)) ?_) (by rfl) ?_
  refine x_iload_n 1 dX9_handOver_4 rfl rfl ?_
  refine x_cV1 (As := [.int _]) (ct_X8_potAt_in ok (by omega) H hi) vX9_77 rfl (x_recv (by with_reducible repeat first | assumption | exact hset_s | refine hget_n (by first | assumption | exact Ne.symm (by assumption) | exact nA (by assumption) (by omega) (by omega) (by omega)) ?_) rfl) rfl ⟨ble rfl, ble rfl⟩ (ble rfl) dX9_handOver_5 rfl ?_
  first | refine x_astore_n (L' := [(3, _), (0, _), (1, _), (2, _)]) dX9_handOver_8 rfl (ble rfl) rfl ?_ | refine x_astore_nN (L' := [(3, _), (0, _), (1, _), (2, _)]) dX9_handOver_8 rfl (ble rfl) rfl ?_
  first | refine x_aload_n 1 dX9_handOver_9 rfl rfl ?_ | refine x_aload_nN 1 dX9_handOver_9 rfl rfl ?_
  refine x_get fX9_12 rfl dX9_handOver_10 (by with_reducible repeat first | assumption | exact hset_s | refine hget_n (by first | assumption | exact Ne.symm (by assumption) | exact nA (by assumption) (by omega) (by omega) (by omega)) ?_) (by rfl) ?_
  refine x_iload_n 3 dX9_handOver_13 rfl rfl ?_
  refine x_cV1 (As := [.int _]) (ct_X8_orderAt_out ok (by omega) H hy) vX9_139 rfl (x_recv (by with_reducible repeat first | assumption | exact hset_s | refine hget_n (by first | assumption | exact Ne.symm (by assumption) | exact nA (by assumption) (by omega) (by omega) (by omega)) ?_) rfl) rfl ⟨ble rfl, ble rfl⟩ (ble rfl) dX9_handOver_14 rfl ?_
  first | refine x_astore (L' := [(4, _), (3, _), (0, _), (1, _), (2, _)]) dX9_handOver_17 (ble rfl) rfl ?_ | refine x_astoreN (L' := [(4, _), (3, _), (0, _), (1, _), (2, _)]) dX9_handOver_17 (ble rfl) rfl ?_
  first | refine x_aload_n 1 dX9_handOver_19 rfl rfl ?_ | refine x_aload_nN 1 dX9_handOver_19 rfl rfl ?_
  refine x_ifnull 28 dX9_handOver_20 (by decide) ?_
  first | refine x_aload 0 dX9_handOver_23 rfl ?_ | refine x_aloadN 0 dX9_handOver_23 rfl ?_
  refine x_ifnonnullN 30 dX9_handOver_25 (by decide) ?_
  refine x_iconst (v := -1) dX9_handOver_28 rfl ?_
  refine x_iret rfl dX9_handOver_29 ?_
  have e : pSell N (nI i) y = cod (-1) := by unfold pSell; (repeat' split) <;> first | rfl | (exfalso; (simp only [Int32.lt_iff_toInt_lt, Int32.le_iff_toInt_le, ← Int32.toInt_inj, Int32.toInt_zero, t_1, t_2, t_3, t_4, t_5, t_6, t_7, t_8, t_9, t_10, t_11, t_12, t_13, t_14, t_16, t_20, t_30, t_32, t_48, t_50, t_57, t_60, t_90, t_99, t_120, t_126, t_m1, t_m2, t_m3, t_m4] at *; omega))
  rw [e]
  exact ⟨rfl, rfl⟩
theorem lackK_c (k k2 : Nat) (g b t m t2 : Int32) : lackK k k2 g b t m t2 = 0 ∨ lackK k k2 g b t m t2 = 12 ∨ lackK k k2 g b t m t2 = 5 ∨ lackK k k2 g b t m t2 = 6 ∨ lackK k k2 g b t m t2 = 13 := by
  unfold lackK
  (repeat' split) <;> simp
theorem ct_detAny {l : Launch} {G : Gl} {h : Hp} {n sh g b t r m o : Int32} {k p : Nat} {t2 p2 po pd : Int32} {k2 q : Nat} (hp : h p = some (ePot G n k sh g b t r m o)) (hk : k < 3) (hq : h q = some (eOrd G k2 t2 p2 po pd)) {x : Int32} (hx : x = 12 ∨ x = 5 ∨ x = 6 ∨ x = 13) : CtR l G mX4_detailOf 3 [.ref p, .int x, .ref q] h (some (.int (if x = 12 then kNum k else if x = 6 then mx (kSm k - b) 0 else if x = 13 then tinK m t2 - t else n))) h := by
  rcases hx with rfl | rfl | rfl | rfl
  · exact ct_X4_detailOf_12 hp hk hq
  · exact ct_X4_detailOf_5 hp hk hq
  · exact ct_X4_detailOf_6 hp hk hq
  · exact ct_X4_detailOf_13 hp hk hq
set_option maxRecDepth 100000 in
set_option maxHeartbeats 4000000 in
theorem ct_X9_handOver_ii {l : Launch} {G : Gl} {h : Hp} {N : Nat → Int32} {ns np no c : Nat} {f d : Nat → Int32} (ok : Ok G) (H : ShW G h 1000 N ns np no) (R : RsW G h c f d) (hm : h (Ad G 1) = some (.inr (9, [.ref (Ad G 1000), .ref (Ad G 2)]))) {i j : Nat} (hi : i < np) (hj : j < no) : CtP l G mX9_handOver 5 (0) (0) [.ref (Ad G 1), .int (nI i), .int (nI j)] h (some (.int (ansC (pSell N (nI i) (nI j))))) (fun h' => SmP G h (pSell N (nI i) (nI j)) N ns np no c f d h') := by
  obtain ⟨hsh, has, hap, hao, -, hns, hnp, hno, bs, bp, bo, hS, hP, hO, -⟩ := id H
  obtain ⟨gp, fs, fp, fo, S0, F0⟩ := id H.sh
  have hr2 := R.1
  have tns : (N 2).toInt = ns := by rw [hns]; exact nI_toInt (by omega)
  have tnp : (N 3).toInt = np := by rw [hnp]; exact nI_toInt (by omega)
  have tno : (N 4).toInt = no := by rw [hno]; exact nI_toInt (by omega)
  have hcl := kOf_nI (j := i) (by omega)
  have ti := nI_toInt (n := i) (by omega)
  obtain ⟨hk, hp⟩ := hP i hi
  have hcj := kOf_nI (j := j) (by omega)
  have tj := nI_toInt (n := j) (by omega)
  obtain ⟨hk2, hq⟩ := hO j hj
  have npo := nA ok (show 1000 + 30 + i < 3000 by omega) (show 1000 + 50 + j < 3000 by omega) (by omega)
  refine Ct.of (L := [(0, _), (1, _), (2, _)]) (by decide) (ble rfl) rfl ?_
  first | refine x_aload_n 0 dX9_handOver_0 rfl rfl ?_ | refine x_aload_nN 0 dX9_handOver_0 rfl rfl ?_
  refine x_get fX9_12 rfl dX9_handOver_1 (by with_reducible repeat first | assumption | exact hset_s | refine hget_n (by first | assumption | exact Ne.symm (by assumption) | exact nA (by assumption) (by omega) (by omega) (by omega)) ?_) (by rfl) ?_
  refine x_iload_n 1 dX9_handOver_4 rfl rfl ?_
  refine x_cV1 (As := [.int _]) (ct_X8_potAt_in ok (by omega) H hi) vX9_77 rfl (x_recv (by with_reducible repeat first | assumption | exact hset_s | refine hget_n (by first | assumption | exact Ne.symm (by assumption) | exact nA (by assumption) (by omega) (by omega) (by omega)) ?_) rfl) rfl ⟨ble rfl, ble rfl⟩ (ble rfl) dX9_handOver_5 rfl ?_
  first | refine x_astore_n (L' := [(3, _), (0, _), (1, _), (2, _)]) dX9_handOver_8 rfl (ble rfl) rfl ?_ | refine x_astore_nN (L' := [(3, _), (0, _), (1, _), (2, _)]) dX9_handOver_8 rfl (ble rfl) rfl ?_
  first | refine x_aload_n 1 dX9_handOver_9 rfl rfl ?_ | refine x_aload_nN 1 dX9_handOver_9 rfl rfl ?_
  refine x_get fX9_12 rfl dX9_handOver_10 (by with_reducible repeat first | assumption | exact hset_s | refine hget_n (by first | assumption | exact Ne.symm (by assumption) | exact nA (by assumption) (by omega) (by omega) (by omega)) ?_) (by rfl) ?_
  refine x_iload_n 3 dX9_handOver_13 rfl rfl ?_
  refine x_cV1 (As := [.int _]) (ct_X8_orderAt_in ok (by omega) H hj) vX9_139 rfl (x_recv (by with_reducible repeat first | assumption | exact hset_s | refine hget_n (by first | assumption | exact Ne.symm (by assumption) | exact nA (by assumption) (by omega) (by omega) (by omega)) ?_) rfl) rfl ⟨ble rfl, ble rfl⟩ (ble rfl) dX9_handOver_14 rfl ?_
  first | refine x_astore (L' := [(4, _), (3, _), (0, _), (1, _), (2, _)]) dX9_handOver_17 (ble rfl) rfl ?_ | refine x_astoreN (L' := [(4, _), (3, _), (0, _), (1, _), (2, _)]) dX9_handOver_17 (ble rfl) rfl ?_
  first | refine x_aload_n 1 dX9_handOver_19 rfl rfl ?_ | refine x_aload_nN 1 dX9_handOver_19 rfl rfl ?_
  refine x_ifnull 28 dX9_handOver_20 (by decide) ?_
  first | refine x_aload 0 dX9_handOver_23 rfl ?_ | refine x_aloadN 0 dX9_handOver_23 rfl ?_
  refine x_ifnonnull 30 dX9_handOver_25 (by decide) ?_
  first | refine x_aload 0 dX9_handOver_30 rfl ?_ | refine x_aloadN 0 dX9_handOver_30 rfl ?_
  refine x_cV1 (As := []) (ct_X3_isFilled (by with_reducible repeat first | assumption | exact hset_s | refine hget_n (by first | assumption | exact Ne.symm (by assumption) | exact nA (by assumption) (by omega) (by omega) (by omega)) ?_)) vX9_143 rfl (x_recv (by with_reducible repeat first | assumption | exact hset_s | refine hget_n (by first | assumption | exact Ne.symm (by assumption) | exact nA (by assumption) (by omega) (by omega) (by omega)) ?_) rfl) rfl ⟨ble rfl, ble rfl⟩ (ble rfl) dX9_handOver_32 rfl ?_
  refine x_if_eq 53 dX9_handOver_35 (by decide) (fun c35 => ?_) (fun c35 => ?_)
  · first | refine x_aload_n 1 dX9_handOver_53 rfl rfl ?_ | refine x_aload_nN 1 dX9_handOver_53 rfl rfl ?_
    refine x_cV1 (As := []) (ct_X4_isSold (by with_reducible repeat first | assumption | exact hset_s | refine hget_n (by first | assumption | exact Ne.symm (by assumption) | exact nA (by assumption) (by omega) (by omega) (by omega)) ?_)) vX9_149 rfl (x_recv (by with_reducible repeat first | assumption | exact hset_s | refine hget_n (by first | assumption | exact Ne.symm (by assumption) | exact nA (by assumption) (by omega) (by omega) (by omega)) ?_) rfl) rfl ⟨ble rfl, ble rfl⟩ (ble rfl) dX9_handOver_54 rfl ?_
    refine x_if_eq 73 dX9_handOver_57 (by decide) (fun c57 => ?_) (fun c57 => ?_)
    · first | refine x_aload_n 1 dX9_handOver_73 rfl rfl ?_ | refine x_aload_nN 1 dX9_handOver_73 rfl rfl ?_
      first | refine x_aload 0 dX9_handOver_74 rfl ?_ | refine x_aloadN 0 dX9_handOver_74 rfl ?_
      refine x_cV1 (As := [.ref _]) (ct_X4_lackFor ok hp hk hq hk2) vX9_155 rfl (x_recv (by with_reducible repeat first | assumption | exact hset_s | refine hget_n (by first | assumption | exact Ne.symm (by assumption) | exact nA (by assumption) (by omega) (by omega) (by omega)) ?_) rfl) rfl ⟨ble rfl, ble rfl⟩ (ble rfl) dX9_handOver_76 rfl ?_
      refine x_istore (L' := [(5, _), (4, _), (3, _), (0, _), (1, _), (2, _)]) dX9_handOver_79 (ble rfl) rfl ?_
      refine x_iload 0 dX9_handOver_81 rfl ?_
      refine x_if_eq 115 dX9_handOver_83 (by decide) (fun c83 => ?_) (fun c83 => ?_)
      · first | refine x_aload 1 dX9_handOver_115 rfl ?_ | refine x_aloadN 1 dX9_handOver_115 rfl ?_
        refine x_iload_n 4 dX9_handOver_117 rfl rfl ?_
        refine x_put fX9_146 rfl rfl rfl rfl dX9_handOver_118 (by with_reducible repeat first | assumption | exact hset_s | refine hget_n (by first | assumption | exact Ne.symm (by assumption) | exact nA (by assumption) (by omega) (by omega) (by omega)) ?_) (by exact ble rfl) (by first | assumption | exact aA (by assumption) (by omega)) ?_
        first | refine x_aload 1 dX9_handOver_121 rfl ?_ | refine x_aloadN 1 dX9_handOver_121 rfl ?_
        first | refine x_aload 1 dX9_handOver_123 rfl ?_ | refine x_aloadN 1 dX9_handOver_123 rfl ?_
        first | refine x_aload_n 2 dX9_handOver_125 rfl rfl ?_ | refine x_aload_nN 2 dX9_handOver_125 rfl rfl ?_
        refine x_cV1 (As := [.ref _]) (ct_X3_payFor (by exact hset_s) (by with_reducible repeat first | assumption | exact hset_s | refine hget_n (by first | assumption | exact Ne.symm (by assumption) | exact nA (by assumption) (by omega) (by omega) (by omega)) ?_)) vX9_166 rfl (x_recv (by with_reducible repeat first | assumption | exact hset_s | refine hget_n (by first | assumption | exact Ne.symm (by assumption) | exact nA (by assumption) (by omega) (by omega) (by omega)) ?_) rfl) rfl ⟨ble rfl, ble rfl⟩ (ble rfl) dX9_handOver_126 rfl ?_
        refine x_put fX9_170 rfl rfl rfl rfl dX9_handOver_129 (by with_reducible repeat first | assumption | exact hset_s | refine hget_n (by first | assumption | exact Ne.symm (by assumption) | exact nA (by assumption) (by omega) (by omega) (by omega)) ?_) (by exact ble rfl) (by first | assumption | exact aA (by assumption) (by omega)) ?_
        first | refine x_aload_n 2 dX9_handOver_132 rfl rfl ?_ | refine x_aload_nN 2 dX9_handOver_132 rfl rfl ?_
        refine x_iload_n 5 dX9_handOver_133 rfl rfl ?_
        refine x_put fX9_152 rfl rfl rfl rfl dX9_handOver_134 (by with_reducible repeat first | assumption | exact hset_s | refine hget_n (by first | assumption | exact Ne.symm (by assumption) | exact nA (by assumption) (by omega) (by omega) (by omega)) ?_) (by exact ble rfl) (by first | assumption | exact aA (by assumption) (by omega)) ?_
        first | refine x_aload_n 3 dX9_handOver_137 rfl rfl ?_ | refine x_aload_nN 3 dX9_handOver_137 rfl rfl ?_
        refine x_get fX9_12 rfl dX9_handOver_138 (by with_reducible repeat first | assumption | exact hset_s | refine hget_n (by first | assumption | exact Ne.symm (by assumption) | exact nA (by assumption) (by omega) (by omega) (by omega)) ?_) (by rfl) ?_
        refine x_dup dX9_handOver_141 rfl ?_
        refine x_get fX9_33 rfl dX9_handOver_142 (by with_reducible repeat first | assumption | exact hset_s | refine hget_n (by first | assumption | exact Ne.symm (by assumption) | exact nA (by assumption) (by omega) (by omega) (by omega)) ?_) (by rfl) ?_
        first | refine x_aload 1 dX9_handOver_145 rfl ?_ | refine x_aloadN 1 dX9_handOver_145 rfl ?_
        refine x_get fX9_170 rfl dX9_handOver_147 (by with_reducible repeat first | assumption | exact hset_s | refine hget_n (by first | assumption | exact Ne.symm (by assumption) | exact nA (by assumption) (by omega) (by omega) (by omega)) ?_) (by rfl) ?_
        refine x_iadd dX9_handOver_150 ?_
        refine x_put fX9_33 rfl rfl rfl rfl dX9_handOver_151 (by with_reducible repeat first | assumption | exact hset_s | refine hget_n (by first | assumption | exact Ne.symm (by assumption) | exact nA (by assumption) (by omega) (by omega) (by omega)) ?_) (by exact ble rfl) (by first | assumption | exact aA (by assumption) (by omega)) ?_
        first | refine x_aload_n 3 dX9_handOver_154 rfl rfl ?_ | refine x_aload_nN 3 dX9_handOver_154 rfl rfl ?_
        refine x_get fX9_12 rfl dX9_handOver_155 (by with_reducible repeat first | assumption | exact hset_s | refine hget_n (by first | assumption | exact Ne.symm (by assumption) | exact nA (by assumption) (by omega) (by omega) (by omega)) ?_) (by rfl) ?_
        refine x_get fX9_33 rfl dX9_handOver_158 (by with_reducible repeat first | assumption | exact hset_s | refine hget_n (by first | assumption | exact Ne.symm (by assumption) | exact nA (by assumption) (by omega) (by omega) (by omega)) ?_) (by rfl) ?_
        refine x_iret rfl dX9_handOver_161 ?_
        have hlk : ¬ ¬ lackN N i j = 0 := fun q => q c83
        have e : pSell N (nI i) (nI j) = okk (N 0 + payK (N (64 + 8 * i)) (N (190 + 5 * j))) (upd (upd (upd (upd (upd N (66 + 8 * i) (nI j)) (191 + 5 * j) (nI i)) (192 + 5 * j) (payK (N (64 + 8 * i)) (N (190 + 5 * j)))) 0 (N 0 + payK (N (64 + 8 * i)) (N (190 + 5 * j)))) 9 (N 9 + payK (N (64 + 8 * i)) (N (190 + 5 * j)))) := by unfold pSell; rw [hcl, hcj]; (repeat' split) <;> first | rfl | (exfalso; first | contradiction | (simp_all; done) | (simp only [Int32.lt_iff_toInt_lt, Int32.le_iff_toInt_le, ← Int32.toInt_inj, Int32.toInt_zero, t_1, t_2, t_3, t_4, t_5, t_6, t_7, t_8, t_9, t_10, t_11, t_12, t_13, t_14, t_16, t_20, t_30, t_32, t_48, t_50, t_57, t_60, t_90, t_99, t_120, t_126, t_m1, t_m2, t_m3, t_m4] at *; omega))
        rw [e]
        refine ⟨rfl, ⟨ns, np, no, ShW.mk2 (((((S0.ord ok (by omega) (show j < 8 by omega) _).ord ok (by omega) (show j < 8 by omega) _).pot ok (by omega) (show i < 16 by omega) _).shop ok (by omega) _).cg ?_ (fun _ _ => rfl) (fun _ _ => rfl) (fun _ _ => rfl)) F0 ⟨?_, ?_, ?_, by omega, by omega, by omega⟩ ?_ ?_ ?_⟩, Fr.st (Fr.st (Fr.st (Fr.st (Fr.rf) (inB_2 (by omega))) (inB_2 (by omega))) (inB_2 (by omega))) (inB_0 (by omega))⟩
        · unfold eShop; simp (disch := omega) only [upd_ne, upd_eq]; try rfl
        · simp (disch := omega) only [upd_ne, upd_eq]; exact hns
        · simp (disch := omega) only [upd_ne, upd_eq]; exact hnp
        · simp (disch := omega) only [upd_ne, upd_eq]; exact hno
        · intro i1 hi1; exact Or.inl ⟨rfl, fun hi2 => ⟨hi2, fun q2 hq2 => by simp (disch := omega) only [upd_ne, upd_eq]⟩⟩
        · intro i1 hi1; by_cases q : i1 = i
          · refine Or.inr ?_; rw [q]; simp only [va_u_eq]; rw [show kOf ((upd (upd (upd (upd (upd N (66 + 8 * i) (nI j)) (191 + 5 * j) (nI i)) (192 + 5 * j) (payK (N (64 + 8 * i)) (N (190 + 5 * j)))) 0 (N 0 + payK (N (64 + 8 * i)) (N (190 + 5 * j)))) 9 (N 9 + payK (N (64 + 8 * i)) (N (190 + 5 * j)))) (60 + 8 * i)) = kOf (N (60 + 8 * i)) by simp (disch := omega) only [upd_ne, upd_eq]]; exact ⟨by unfold pC; simp (disch := omega) only [upd_ne, upd_eq]; (try rfl), hk⟩
          · refine Or.inl ⟨by simp only [va_u_ne q], fun hi2 => ⟨by omega, fun q2 hq2 => by simp (disch := omega) only [upd_ne, upd_eq]⟩⟩
        · intro i1 hi1; by_cases q : i1 = j
          · refine Or.inr ?_; rw [q]; simp only [va_u_eq]; rw [show kOf ((upd (upd (upd (upd (upd N (66 + 8 * i) (nI j)) (191 + 5 * j) (nI i)) (192 + 5 * j) (payK (N (64 + 8 * i)) (N (190 + 5 * j)))) 0 (N 0 + payK (N (64 + 8 * i)) (N (190 + 5 * j)))) 9 (N 9 + payK (N (64 + 8 * i)) (N (190 + 5 * j)))) (188 + 5 * j)) = kOf (N (188 + 5 * j)) by simp (disch := omega) only [upd_ne, upd_eq]]; exact ⟨by unfold oC; simp (disch := omega) only [upd_ne, upd_eq]; (try rfl), hk2⟩
          · refine Or.inl ⟨by simp only [va_u_ne q], fun hi2 => ⟨by omega, fun q2 hq2 => by simp (disch := omega) only [upd_ne, upd_eq]⟩⟩
      · first | refine x_aload_n 3 dX9_handOver_86 rfl rfl ?_ | refine x_aload_nN 3 dX9_handOver_86 rfl rfl ?_
        refine x_get fX9_21 rfl dX9_handOver_87 (by with_reducible repeat first | assumption | exact hset_s | refine hget_n (by first | assumption | exact Ne.symm (by assumption) | exact nA (by assumption) (by omega) (by omega) (by omega)) ?_) (by rfl) ?_
        refine x_iload 0 dX9_handOver_90 rfl ?_
        first | refine x_aload_n 2 dX9_handOver_92 rfl rfl ?_ | refine x_aload_nN 2 dX9_handOver_92 rfl rfl ?_
        refine x_iload 0 dX9_handOver_93 rfl ?_
        first | refine x_aload 1 dX9_handOver_95 rfl ?_ | refine x_aloadN 1 dX9_handOver_95 rfl ?_
        refine x_cV1 (As := [.int _, .ref _]) (ct_detAny hp hk hq (by rcases lackK_c (kOf (N (60 + 8 * i))) (kOf (N (188 + 5 * j))) (N (61 + 8 * i)) (N (62 + 8 * i)) (N (63 + 8 * i)) (N (64 + 8 * i)) (N (189 + 5 * j)) with z | z; exact absurd z c83; exact z)) vX9_159 rfl (x_recv (by with_reducible repeat first | assumption | exact hset_s | refine hget_n (by first | assumption | exact Ne.symm (by assumption) | exact nA (by assumption) (by omega) (by omega) (by omega)) ?_) rfl) rfl ⟨ble rfl, ble rfl⟩ (ble rfl) dX9_handOver_97 rfl ?_
        refine x_pV1 (mc1 := 0) (ms1 := 0) (As := [.int _, .int _]) (ct_X5_refuse (by assumption) (by assumption) _ _) vX9_29 rfl (x_recv (by with_reducible repeat first | assumption | exact hset_s | refine hget_n (by first | assumption | exact Ne.symm (by assumption) | exact nA (by assumption) (by omega) (by omega) (by omega)) ?_) rfl) rfl ⟨ble rfl, ble rfl⟩ (ble rfl) dX9_handOver_100 rfl ⟨by omega, by omega⟩ (fun h100 q100 => ?_)
        obtain ⟨f1, d1, R1, r1, r2, F1⟩ := q100
        have hm1 := F1 _ _ hm (nB ok (by omega) (by omega) (by omega))
        refine x_pop dX9_handOver_103 rfl ?_
        first | refine x_aload_n 3 dX9_handOver_104 rfl rfl ?_ | refine x_aload_nN 3 dX9_handOver_104 rfl rfl ?_
        refine x_get fX9_21 rfl dX9_handOver_105 (by with_reducible repeat first | assumption | exact hset_s | refine hget_n (by first | assumption | exact Ne.symm (by assumption) | exact nA (by assumption) (by omega) (by omega) (by omega)) ?_) (by rfl) ?_
        refine x_bipush (v := 11) dX9_handOver_108 rfl ?_
        refine x_iload_n 4 dX9_handOver_110 rfl rfl ?_
        refine x_pV1 (mc1 := 0) (ms1 := 0) (As := [.int _, .int _]) (ct_X5_wrap_1 ok R1 _ _) vX9_163 rfl (x_recv R1.1 rfl) rfl ⟨ble rfl, ble rfl⟩ (ble rfl) dX9_handOver_111 rfl ⟨by omega, by omega⟩ (fun h111 q111 => ?_)
        obtain ⟨f2, d2, R2, z1, z2, z3, F2⟩ := q111
        refine x_iret rfl dX9_handOver_114 ?_
        have e : pSell N (nI i) (nI j) = rfs 11 (nI i) (lackN N i j) (detN N i j) := by unfold pSell; rw [hcl, hcj]; (repeat' split) <;> first | rfl | (exfalso; first | exact absurd (by assumption) c83 | (unfold lackN at *; simp_all; done) | (simp only [Int32.lt_iff_toInt_lt, Int32.le_iff_toInt_le, ← Int32.toInt_inj, Int32.toInt_zero, t_1, t_2, t_3, t_4, t_5, t_6, t_7, t_8, t_9, t_10, t_11, t_12, t_13, t_14, t_16, t_20, t_30, t_32, t_48, t_50, t_57, t_60, t_90, t_99, t_120, t_126, t_m1, t_m2, t_m3, t_m4] at *; omega))
        rw [e]
        exact ⟨rfl, ⟨f2, d2, fun q => absurd q c83, fun _ => ⟨R2, (z3 0 (by omega)).1.trans r1, (z3 0 (by omega)).2.trans r2⟩, z1, z2⟩, F1.tr F2 (fun _ z => z) (fun _ z => z)⟩
    · first | refine x_aload_n 2 dX9_handOver_60 rfl rfl ?_ | refine x_aload_nN 2 dX9_handOver_60 rfl rfl ?_
      refine x_get fX9_21 rfl dX9_handOver_61 (by with_reducible repeat first | assumption | exact hset_s | refine hget_n (by first | assumption | exact Ne.symm (by assumption) | exact nA (by assumption) (by omega) (by omega) (by omega)) ?_) (by rfl) ?_
      refine x_iconst (v := 4) dX9_handOver_64 rfl ?_
      first | refine x_aload_n 1 dX9_handOver_65 rfl rfl ?_ | refine x_aload_nN 1 dX9_handOver_65 rfl rfl ?_
      refine x_get fX9_152 rfl dX9_handOver_66 (by with_reducible repeat first | assumption | exact hset_s | refine hget_n (by first | assumption | exact Ne.symm (by assumption) | exact nA (by assumption) (by omega) (by omega) (by omega)) ?_) (by rfl) ?_
      refine x_pV1 (mc1 := 0) (ms1 := 0) (As := [.int _, .int _]) (ct_X5_refuse (by assumption) (by assumption) _ _) vX9_29 rfl (x_recv (by with_reducible repeat first | assumption | exact hset_s | refine hget_n (by first | assumption | exact Ne.symm (by assumption) | exact nA (by assumption) (by omega) (by omega) (by omega)) ?_) rfl) rfl ⟨ble rfl, ble rfl⟩ (ble rfl) dX9_handOver_69 rfl ⟨by omega, by omega⟩ (fun h69 q69 => ?_)
      obtain ⟨f1, d1, R1, r1, r2, F1⟩ := q69
      have hm1 := F1 _ _ hm (nB ok (by omega) (by omega) (by omega))
      refine x_iret rfl dX9_handOver_72 ?_
      have e : pSell N (nI i) (nI j) = rfs 4 (N (66 + 8 * i)) 0 0 := by unfold pSell; rw [hcl, hcj]; (repeat' split) <;> first | rfl | (exfalso; (simp only [Int32.lt_iff_toInt_lt, Int32.le_iff_toInt_le, ← Int32.toInt_inj, Int32.toInt_zero, t_1, t_2, t_3, t_4, t_5, t_6, t_7, t_8, t_9, t_10, t_11, t_12, t_13, t_14, t_16, t_20, t_30, t_32, t_48, t_50, t_57, t_60, t_90, t_99, t_120, t_126, t_m1, t_m2, t_m3, t_m4] at *; omega))
      rw [e]
      exact ⟨rfl, ⟨f1, d1, fun _ => R1, fun q => absurd rfl q, r1, r2⟩, F1⟩
  · first | refine x_aload_n 2 dX9_handOver_38 rfl rfl ?_ | refine x_aload_nN 2 dX9_handOver_38 rfl rfl ?_
    refine x_get fX9_21 rfl dX9_handOver_39 (by with_reducible repeat first | assumption | exact hset_s | refine hget_n (by first | assumption | exact Ne.symm (by assumption) | exact nA (by assumption) (by omega) (by omega) (by omega)) ?_) (by rfl) ?_
    refine x_bipush (v := 10) dX9_handOver_42 rfl ?_
    first | refine x_aload 0 dX9_handOver_44 rfl ?_ | refine x_aloadN 0 dX9_handOver_44 rfl ?_
    refine x_get fX9_146 rfl dX9_handOver_46 (by with_reducible repeat first | assumption | exact hset_s | refine hget_n (by first | assumption | exact Ne.symm (by assumption) | exact nA (by assumption) (by omega) (by omega) (by omega)) ?_) (by rfl) ?_
    refine x_pV1 (mc1 := 0) (ms1 := 0) (As := [.int _, .int _]) (ct_X5_refuse (by assumption) (by assumption) _ _) vX9_29 rfl (x_recv (by with_reducible repeat first | assumption | exact hset_s | refine hget_n (by first | assumption | exact Ne.symm (by assumption) | exact nA (by assumption) (by omega) (by omega) (by omega)) ?_) rfl) rfl ⟨ble rfl, ble rfl⟩ (ble rfl) dX9_handOver_49 rfl ⟨by omega, by omega⟩ (fun h49 q49 => ?_)
    obtain ⟨f1, d1, R1, r1, r2, F1⟩ := q49
    have hm1 := F1 _ _ hm (nB ok (by omega) (by omega) (by omega))
    refine x_iret rfl dX9_handOver_52 ?_
    have e : pSell N (nI i) (nI j) = rfs 10 (N (191 + 5 * j)) 0 0 := by unfold pSell; rw [hcl, hcj]; (repeat' split) <;> first | rfl | (exfalso; (simp only [Int32.lt_iff_toInt_lt, Int32.le_iff_toInt_le, ← Int32.toInt_inj, Int32.toInt_zero, t_1, t_2, t_3, t_4, t_5, t_6, t_7, t_8, t_9, t_10, t_11, t_12, t_13, t_14, t_16, t_20, t_30, t_32, t_48, t_50, t_57, t_60, t_90, t_99, t_120, t_126, t_m1, t_m2, t_m3, t_m4] at *; omega))
    rw [e]
    exact ⟨rfl, ⟨f1, d1, fun _ => R1, fun q => absurd rfl q, r1, r2⟩, F1⟩
