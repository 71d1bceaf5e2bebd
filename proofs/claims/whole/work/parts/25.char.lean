def Asc (tx : List Int32) : Prop := ∀ i, i < tx.length → 0 ≤ tx.getD i 0 ∧ tx.getD i 0 < 128
theorem chI_a {x : Int32} (h : 0 ≤ x ∧ x < 128) : chI x = x := by
  have h1 : ∀ n, n < 128 → chI (nI n) = nI n := by decide +kernel
  obtain ⟨n, hn, rfl⟩ := nI_of (Int32.not_lt.mpr h.1)
  refine h1 n (Nat.not_le.mp fun q => ?_)
  exact absurd h.2 (show ¬ nI n < nI 128 from nI_nlt q (by omega))
theorem tsC_a {k : Nat} (hk : k < 12) {j : Nat} (hj : j < tsLen k) : chI (tsC k j) = tsC k j := chI_a (ts_fit k hk j hj).2
set_option maxRecDepth 100000 in
set_option maxHeartbeats 4000000 in
theorem ct_J3_checkIndex_8e157 {l : Launch} {G : Gl} {h : Hp} {i n q : Nat} (hi : i < n) (hn : n < 2 ^ 31) : CtR l G mJ3_checkIndex_8e157 1 [.int (nI i), .int (nI n), .ref q] h (some (.int (nI i))) (h) := by
  refine Ct.of (L := [(0, _), (1, _), (2, _)]) (by decide) (ble rfl) rfl ?_
  refine x_iload_n 0 dJ3_checkIndex_8e157_0 rfl rfl ?_
  refine x_if_lt 9 dJ3_checkIndex_8e157_1 (by decide) (fun z => by first | exact absurd z (nI_pos (by omega)) | exact absurd (nI_pos (by omega)) z) (fun _ => ?_)
  refine x_iload_n 0 dJ3_checkIndex_8e157_4 rfl rfl ?_
  refine x_iload_n 1 dJ3_checkIndex_8e157_5 rfl rfl ?_
  refine x_icmp_lt 16 dJ3_checkIndex_8e157_6 (by decide) (fun _ => ?_) (fun z => by first | exact absurd (nI_lt hi hn) z | exact absurd z (nI_lt hi hn))
  refine x_iload_n 0 dJ3_checkIndex_8e157_16 rfl rfl ?_
  refine x_iret rfl dJ3_checkIndex_8e157_17 ?_
  exact ⟨rfl, rfl⟩
set_option maxRecDepth 100000 in
set_option maxHeartbeats 4000000 in
theorem ct_J3_checkIndex_n {l : Launch} {G : Gl} {h : Hp} {i n : Nat} (hi : i < n) (hn : n < 2 ^ 31) : CtR l G mJ3_checkIndex_8e157 1 [.int (nI i), .int (nI n), .null] h (some (.int (nI i))) (h) := by
  refine Ct.of (L := [(0, _), (1, _), (2, _)]) (by decide) (ble rfl) rfl ?_
  refine x_iload_n 0 dJ3_checkIndex_8e157_0 rfl rfl ?_
  refine x_if_lt 9 dJ3_checkIndex_8e157_1 (by decide) (fun z => by first | exact absurd z (nI_pos (by omega)) | exact absurd (nI_pos (by omega)) z) (fun _ => ?_)
  refine x_iload_n 0 dJ3_checkIndex_8e157_4 rfl rfl ?_
  refine x_iload_n 1 dJ3_checkIndex_8e157_5 rfl rfl ?_
  refine x_icmp_lt 16 dJ3_checkIndex_8e157_6 (by decide) (fun _ => ?_) (fun z => by first | exact absurd (nI_lt hi hn) z | exact absurd z (nI_lt hi hn))
  refine x_iload_n 0 dJ3_checkIndex_8e157_16 rfl rfl ?_
  refine x_iret rfl dJ3_checkIndex_8e157_17 ?_
  exact ⟨rfl, rfl⟩
theorem ct_J3_checkIndex_fm {l : Launch} {G : Gl} {h : Hp} {i n : Nat} (hi : i < n) (hn : n < 2 ^ 31) : CtR l G mJ3_checkIndex_8e157 1 [.int (nI i), .int (nI n), fmV G] h (some (.int (nI i))) h := by
  unfold fmV
  split
  · exact ct_J3_checkIndex_n hi hn
  · exact ct_J3_checkIndex_8e157 hi hn
set_option maxRecDepth 100000 in
set_option maxHeartbeats 4000000 in
theorem ct_J0_checkIndex_df160 {l : Launch} {G : Gl} {h : Hp} {i n : Nat} (hi : i < n) (hn : n < 2 ^ 31) : CtR l G mJ0_checkIndex_df160 2 [.int (nI i), .int (nI n)] h (none) (h) := by
  refine Ct.of (L := [(0, _), (1, _)]) (by decide) (ble rfl) rfl ?_
  refine x_iload_n 0 dJ0_checkIndex_df160_0 rfl rfl ?_
  refine x_iload_n 1 dJ0_checkIndex_df160_1 rfl rfl ?_
  refine x_gets zFM rfl oJ0_1053 dJ0_checkIndex_df160_2 ?_
  refine x_cS1 (As := [.int _, .int _, fmV G]) (ct_J3_checkIndex_fm hi (by omega)) vJ0_1059 rfl rfl ⟨ble rfl, ble rfl⟩ (ble rfl) dJ0_checkIndex_df160_5 rfl ?_
  refine x_pop dJ0_checkIndex_df160_8 rfl ?_
  refine x_vret rfl dJ0_checkIndex_df160_9 ?_
  exact ⟨rfl, rfl⟩
set_option maxRecDepth 100000 in
set_option maxHeartbeats 4000000 in
theorem ct_J5_charAt_5068e {l : Launch} {G : Gl} {h : Hp} {a : Nat} {tx : List Int32} {b : Nat} (T : SBT G h a tx b) {i : Nat} (hi : i < tx.length) : CtR l G mJ5_charAt_5068e 3 [.ref a, .int (nI i)] h (some (.int (chI (tx.getD i 0)))) (h) := by
  obtain ⟨m, ml, f, ha, hb, hab, hB, hl, hm, hfit, hf, hAd⟩ := T
  refine Ct.of (L := [(0, _), (1, _)]) (by decide) (ble rfl) rfl ?_
  first | refine x_aload_n 0 dJ5_charAt_5068e_0 rfl rfl ?_ | refine x_aload_nN 0 dJ5_charAt_5068e_0 rfl rfl ?_
  refine x_get fJ5_22 rfl dJ5_charAt_5068e_1 (by with_reducible repeat first | assumption | exact hset_s | refine hget_n (by first | assumption | exact Ne.symm (by assumption) | exact nA (by assumption) (by omega) (by omega) (by omega)) ?_) (by rfl) ?_
  refine x_istore_n (L' := [(2, _), (0, _), (1, _)]) dJ5_charAt_5068e_4 rfl (ble rfl) rfl ?_
  first | refine x_aload_n 1 dJ5_charAt_5068e_5 rfl rfl ?_ | refine x_aload_nN 1 dJ5_charAt_5068e_5 rfl rfl ?_
  refine x_get fJ5_15 rfl dJ5_charAt_5068e_6 (by with_reducible repeat first | assumption | exact hset_s | refine hget_n (by first | assumption | exact Ne.symm (by assumption) | exact nA (by assumption) (by omega) (by omega) (by omega)) ?_) (by rfl) ?_
  first | refine x_astore_n (L' := [(3, _), (2, _), (0, _), (1, _)]) dJ5_charAt_5068e_9 rfl (ble rfl) rfl ?_ | refine x_astore_nN (L' := [(3, _), (2, _), (0, _), (1, _)]) dJ5_charAt_5068e_9 rfl (ble rfl) rfl ?_
  first | refine x_aload_n 2 dJ5_charAt_5068e_10 rfl rfl ?_ | refine x_aload_nN 2 dJ5_charAt_5068e_10 rfl rfl ?_
  refine x_get fJ5_79 rfl dJ5_charAt_5068e_11 (by with_reducible repeat first | assumption | exact hset_s | refine hget_n (by first | assumption | exact Ne.symm (by assumption) | exact nA (by assumption) (by omega) (by omega) (by omega)) ?_) (by rfl) ?_
  first | refine x_aload_n 0 dJ5_charAt_5068e_14 rfl rfl ?_ | refine x_aload_nN 0 dJ5_charAt_5068e_14 rfl rfl ?_
  refine x_alen 2 rfl dJ5_charAt_5068e_15 (by with_reducible repeat first | assumption | exact hset_s | refine hget_n (by first | assumption | exact Ne.symm (by assumption) | exact nA (by assumption) (by omega) (by omega) (by omega)) ?_) (v := nI m) rfl ?_
  refine x_iload_n 1 dJ5_charAt_5068e_16 rfl rfl ?_
  refine x_ishr dJ5_charAt_5068e_17 ?_
  rw [sb_shr0]
  refine x_mmin rfl wJ5_138 wMmin2 wMath3 wMmin4 (ble rfl) (ble rfl) dJ5_charAt_5068e_18 ?_
  rw [show (if nI m < nI tx.length then nI m else nI tx.length) = nI tx.length from if_neg (nI_nlt hl (by omega))]
  refine x_istore (L' := [(4, _), (3, _), (2, _), (0, _), (1, _)]) dJ5_charAt_5068e_21 (ble rfl) rfl ?_
  refine x_iload_n 4 dJ5_charAt_5068e_23 rfl rfl ?_
  refine x_iload 0 dJ5_charAt_5068e_24 rfl ?_
  refine x_cS0 (As := [.int _, .int _]) (ct_J0_checkIndex_df160 (by assumption) (by omega)) vJ5_144 rfl rfl ⟨ble rfl, ble rfl⟩ (ble rfl) dJ5_charAt_5068e_26 rfl ?_
  refine x_iload_n 2 dJ5_charAt_5068e_29 rfl rfl ?_
  refine x_if_ne 42 dJ5_charAt_5068e_30 (by decide) (fun z => by first | exact absurd z (rfl) | exact absurd (rfl) z) (fun _ => ?_)
  first | refine x_aload_n 1 dJ5_charAt_5068e_33 rfl rfl ?_ | refine x_aload_nN 1 dJ5_charAt_5068e_33 rfl rfl ?_
  refine x_iload_n 4 dJ5_charAt_5068e_34 rfl rfl ?_
  refine x_bald dJ5_charAt_5068e_35 (by with_reducible repeat first | assumption | exact hset_s | refine hget_n (by first | assumption | exact Ne.symm (by assumption) | exact nA (by assumption) (by omega) (by omega) (by omega)) ?_) (by exact vp_in_nI (by omega) (by omega)) ?_
  refine x_sipush (v := 255) dJ5_charAt_5068e_36 rfl ?_
  refine x_iand dJ5_charAt_5068e_39 ?_
  refine x_i2c dJ5_charAt_5068e_40 ?_
  refine x_cret rfl (by exact chI_n _) dJ5_charAt_5068e_41 ?_
  rw [nI_clamp (by omega), hf i hi]
  exact ⟨rfl, rfl⟩
set_option maxRecDepth 100000 in
set_option maxHeartbeats 4000000 in
theorem ct_J4_charAt_5068e {l : Launch} {G : Gl} {h : Hp} {a : Nat} {tx : List Int32} {b : Nat} (T : SBT G h a tx b) (hA : Asc tx) {i : Nat} (hi : i < tx.length) : CtR l G mJ4_charAt_5068e 4 [.ref a, .int (nI i)] h (some (.int (tx.getD i 0))) (h) := by
  have T0 := T
  obtain ⟨m, ml, f, ha, hb, hab, hB, hl, hm, hfit, hf, hAd⟩ := T
  refine Ct.of (L := [(0, _), (1, _)]) (by decide) (ble rfl) rfl ?_
  first | refine x_aload_n 0 dJ4_charAt_5068e_0 rfl rfl ?_ | refine x_aload_nN 0 dJ4_charAt_5068e_0 rfl rfl ?_
  refine x_iload_n 1 dJ4_charAt_5068e_1 rfl rfl ?_
  refine x_suR1 (As := [.int _]) (ct_J5_charAt_5068e T0 hi) qJ4_329 rfl (x_recv (by with_reducible repeat first | assumption | exact hset_s | refine hget_n (by first | assumption | exact Ne.symm (by assumption) | exact nA (by assumption) (by omega) (by omega) (by omega)) ?_) rfl) rfl ⟨ble rfl, ble rfl⟩ (ble rfl) dJ4_charAt_5068e_2 rfl ?_
  refine x_cret rfl (by exact chI_n _) dJ4_charAt_5068e_5 ?_
  exact ⟨by rw [chI_a (hA i hi)], rfl⟩
set_option maxRecDepth 100000 in
set_option maxHeartbeats 4000000 in
theorem ct_sl5 {l : Launch} {G : Gl} {h : Hp} {a : Nat} {tx : List Int32} {b : Nat} (T : SBT G h a tx b) (hAa : G.2.2.1 a) : CtP l G mJ5_setLength_d00df 4 (0) (0) [.ref a, .int 0] h (none) (fun h' => SBT G h' a [] b ∧ Fr (fun x => x = a) h h') := by
  obtain ⟨m, ml, f, ha, hb, hab, hB, hl, hm, hfit, hf, hAd⟩ := T
  refine Ct.of (L := [(0, _), (1, _)]) (by decide) (ble rfl) rfl ?_
  refine x_iload_n 1 dJ5_setLength_d00df_0 rfl rfl ?_
  refine x_if_ge 13 dJ5_setLength_d00df_1 (by decide) (fun _ => ?_) (fun z => by first | exact absurd (by decide) z | exact absurd z (by decide))
  first | refine x_aload_n 0 dJ5_setLength_d00df_13 rfl rfl ?_ | refine x_aload_nN 0 dJ5_setLength_d00df_13 rfl rfl ?_
  refine x_iload_n 1 dJ5_setLength_d00df_14 rfl rfl ?_
  refine x_qR0 (As := [.int _]) (ct_ens_no (q := 0) ha hb (by omega) (by omega)) qJ5_100 rfl (x_recv (by with_reducible repeat first | assumption | exact hset_s | refine hget_n (by first | assumption | exact Ne.symm (by assumption) | exact nA (by assumption) (by omega) (by omega) (by omega)) ?_) rfl) rfl ⟨ble rfl, ble rfl⟩ (ble rfl) dJ5_setLength_d00df_15 rfl ?_
  first | refine x_aload_n 0 dJ5_setLength_d00df_18 rfl rfl ?_ | refine x_aload_nN 0 dJ5_setLength_d00df_18 rfl rfl ?_
  refine x_get fJ5_79 rfl dJ5_setLength_d00df_19 (by with_reducible repeat first | assumption | exact hset_s | refine hget_n (by first | assumption | exact Ne.symm (by assumption) | exact nA (by assumption) (by omega) (by omega) (by omega)) ?_) (by rfl) ?_
  refine x_iload_n 1 dJ5_setLength_d00df_22 rfl rfl ?_
  refine x_icmp_ge 63 dJ5_setLength_d00df_23 (by decide) (fun _ => ?_) (fun z => by first | exact absurd (nI_pos' (by omega)) z | exact absurd z (nI_pos' (by omega)))
  first | refine x_aload_n 0 dJ5_setLength_d00df_63 rfl rfl ?_ | refine x_aload_nN 0 dJ5_setLength_d00df_63 rfl rfl ?_
  refine x_get fJ5_79 rfl dJ5_setLength_d00df_64 (by with_reducible repeat first | assumption | exact hset_s | refine hget_n (by first | assumption | exact Ne.symm (by assumption) | exact nA (by assumption) (by omega) (by omega) (by omega)) ?_) (by rfl) ?_
  refine x_iload_n 1 dJ5_setLength_d00df_67 rfl rfl ?_
  refine x_icmp_le 76 dJ5_setLength_d00df_68 (by decide) (fun c68 => ?_) (fun c68 => ?_)
  · first | refine x_aload_n 0 dJ5_setLength_d00df_76 rfl rfl ?_ | refine x_aload_nN 0 dJ5_setLength_d00df_76 rfl rfl ?_
    refine x_iload_n 1 dJ5_setLength_d00df_77 rfl rfl ?_
    refine x_put fJ5_79 rfl rfl rfl rfl dJ5_setLength_d00df_78 (by with_reducible repeat first | assumption | exact hset_s | refine hget_n (by first | assumption | exact Ne.symm (by assumption) | exact nA (by assumption) (by omega) (by omega) (by omega)) ?_) (by exact ble rfl) (by first | assumption | exact aA (by assumption) (by omega)) ?_
    refine x_vret rfl dJ5_setLength_d00df_81 ?_
    refine ⟨rfl, ⟨m, _, f, hset_s, hget_n (Ne.symm hab) (by first | exact hb | exact hget_n (Ne.symm hab) hb), hab, hB, Nat.zero_le _, hm, hfit, fun i hi => absurd hi (Nat.not_lt_zero i), hAd⟩, ?_⟩
    repeat first | exact Fr.rf | refine Fr.st ?_ rfl
  · first | refine x_aload_n 0 dJ5_setLength_d00df_71 rfl rfl ?_ | refine x_aload_nN 0 dJ5_setLength_d00df_71 rfl rfl ?_
    refine x_iconst (v := 1) dJ5_setLength_d00df_72 rfl ?_
    refine x_put fJ5_73 rfl rfl rfl rfl dJ5_setLength_d00df_73 (by with_reducible repeat first | assumption | exact hset_s | refine hget_n (by first | assumption | exact Ne.symm (by assumption) | exact nA (by assumption) (by omega) (by omega) (by omega)) ?_) (by exact ble rfl) (by first | assumption | exact aA (by assumption) (by omega)) ?_
    first | refine x_aload_n 0 dJ5_setLength_d00df_76 rfl rfl ?_ | refine x_aload_nN 0 dJ5_setLength_d00df_76 rfl rfl ?_
    refine x_iload_n 1 dJ5_setLength_d00df_77 rfl rfl ?_
    refine x_putS fJ5_79 rfl rfl rfl rfl dJ5_setLength_d00df_78 (by exact ble rfl) (by first | assumption | exact aA (by assumption) (by omega)) ?_
    refine x_vret rfl dJ5_setLength_d00df_81 ?_
    refine ⟨rfl, ⟨m, _, f, hset_s, hget_n (Ne.symm hab) (by first | exact hb | exact hget_n (Ne.symm hab) hb), hab, hB, Nat.zero_le _, hm, hfit, fun i hi => absurd hi (Nat.not_lt_zero i), hAd⟩, ?_⟩
    repeat first | exact Fr.rf | refine Fr.st ?_ rfl
set_option maxRecDepth 100000 in
set_option maxHeartbeats 4000000 in
theorem ct_sl4 {l : Launch} {G : Gl} {h : Hp} {a : Nat} {tx : List Int32} {b : Nat} (T : SBT G h a tx b) (hAa : G.2.2.1 a) : CtP l G mJ4_setLength_d00df 5 (0) (0) [.ref a, .int 0] h (none) (fun h' => SBT G h' a [] b ∧ Fr (fun x => x = a) h h') := by
  have T0 := T
  obtain ⟨m, ml, f, ha, hb, hab, hB, hl, hm, hfit, hf, hAd⟩ := T
  refine Ct.of (L := [(0, _), (1, _)]) (by decide) (ble rfl) rfl ?_
  first | refine x_aload_n 0 dJ4_setLength_d00df_0 rfl rfl ?_ | refine x_aload_nN 0 dJ4_setLength_d00df_0 rfl rfl ?_
  refine x_iload_n 1 dJ4_setLength_d00df_1 rfl rfl ?_
  refine x_suP0 (mc1 := 0) (ms1 := 0) (As := [.int _]) (ct_sl5 T0 hAa) qJ4_333 rfl (x_recv (by with_reducible repeat first | assumption | exact hset_s | refine hget_n (by first | assumption | exact Ne.symm (by assumption) | exact nA (by assumption) (by omega) (by omega) (by omega)) ?_) rfl) rfl ⟨ble rfl, ble rfl⟩ (ble rfl) dJ4_setLength_d00df_2 rfl ⟨by omega, by omega⟩ (fun h2 q2 => ?_)
  refine x_vret rfl dJ4_setLength_d00df_5 ?_
  exact ⟨rfl, q2⟩
set_option maxRecDepth 100000 in
set_option maxHeartbeats 4000000 in
theorem ct_J1_charAt_3b067 {l : Launch} {G : Gl} {h : Hp} {k : Nat} (hk : k < 12) {i : Nat} (hi : i < tsLen k) : CtR l G mJ1_charAt_3b067 3 [.ref (G.2.2.2 (40 + k)), .int (nI i)] h (some (.int (tsC k i))) (h) := by
  have hL := tsLen_le k hk
  refine Ct.of (L := [(0, _), (1, _)]) (by decide) (ble rfl) rfl ?_
  refine x_iload_n 1 dJ1_charAt_3b067_0 rfl rfl ?_
  first | refine x_aload_n 0 dJ1_charAt_3b067_1 rfl rfl ?_ | refine x_aload_nN 0 dJ1_charAt_3b067_1 rfl rfl ?_
  refine x_tlen (zT_tab (by assumption)) (v := nI (tsLen k)) rfl dJ1_charAt_3b067_2 ?_
  refine x_cS0 (As := [.int _, .int _]) (ct_J0_checkIndex_df160 (by assumption) (by omega)) vJ1_9 rfl rfl ⟨ble rfl, ble rfl⟩ (ble rfl) dJ1_charAt_3b067_3 rfl ?_
  first | refine x_aload_n 0 dJ1_charAt_3b067_6 rfl rfl ?_ | refine x_aload_nN 0 dJ1_charAt_3b067_6 rfl rfl ?_
  refine x_iload_n 1 dJ1_charAt_3b067_7 rfl rfl ?_
  refine x_tbld (zT_tab (by assumption)) (vp_in_nI (by omega) (by omega)) dJ1_charAt_3b067_8 ?_
  refine x_sipush (v := 255) dJ1_charAt_3b067_9 rfl ?_
  refine x_iand dJ1_charAt_3b067_12 ?_
  refine x_i2c dJ1_charAt_3b067_13 ?_
  refine x_cret rfl (by exact chI_n _) dJ1_charAt_3b067_14 ?_
  refine ⟨congrArg (fun z => some (Value.int z)) ?_, rfl⟩
  rw [nI_clamp (by omega)]
  exact tsC_a hk hi
set_option maxRecDepth 100000 in
set_option maxHeartbeats 4000000 in
theorem ct_J0_charAt_5068e {l : Launch} {G : Gl} {h : Hp} {k : Nat} (hk : k < 12) {i : Nat} (hi : i < tsLen k) : CtR l G mJ0_charAt_5068e 4 [.ref (G.2.2.2 (20 + k)), .int (nI i)] h (some (.int (tsC k i))) (h) := by
  refine Ct.of (L := [(0, _), (1, _)]) (by decide) (ble rfl) rfl ?_
  first | refine x_aload_n 0 dJ0_charAt_5068e_0 rfl rfl ?_ | refine x_aload_nN 0 dJ0_charAt_5068e_0 rfl rfl ?_
  refine x_cV1 (As := []) (ct_J0_isLatin1_aae02 (by assumption)) vJ0_492 rfl (x_recvO (zT_obj (by assumption))) rfl ⟨ble rfl, ble rfl⟩ (ble rfl) dJ0_charAt_5068e_1 rfl ?_
  refine x_if_eq 16 dJ0_charAt_5068e_4 (by decide) (fun z => by first | exact absurd z (by decide) | exact absurd (by decide) z) (fun _ => ?_)
  first | refine x_aload_n 0 dJ0_charAt_5068e_7 rfl rfl ?_ | refine x_aload_nN 0 dJ0_charAt_5068e_7 rfl rfl ?_
  refine x_getO (zT_value (by assumption)) rfl oJ0_9 dJ0_charAt_5068e_8 ?_
  refine x_iload_n 1 dJ0_charAt_5068e_11 rfl rfl ?_
  refine x_cS1 (As := [.ref _, .int _]) (ct_J1_charAt_3b067 hk hi) vJ0_495 rfl rfl ⟨ble rfl, ble rfl⟩ (ble rfl) dJ0_charAt_5068e_12 rfl ?_
  refine x_cret rfl (by (rw [← tsC_a hk hi]; exact chI_n _)) dJ0_charAt_5068e_15 ?_
  exact ⟨rfl, rfl⟩
set_option maxRecDepth 100000 in
set_option maxHeartbeats 4000000 in
theorem ct_J1_indexOfChar_4cfef {l : Launch} {G : Gl} {h : Hp} {k : Nat} (hk : k < 12) {c : Int32} (hc : 0 ≤ c ∧ c < 128) : CtR l G mJ1_indexOfChar_4cfef 1 [.ref (G.2.2.2 (40 + k)), .int c, .int 0, .int (nI (tsLen k))] h (some (.int (lowD (-1) (fun j => decide (tsC k j = c)) (tsLen k) (tsLen k)))) (h) := by
  have hL := tsLen_le k hk
  refine Ct.of (L := [(0, _), (1, _), (2, _), (3, _)]) (by decide) (ble rfl) rfl ?_
  refine x_iload_n 1 dJ1_indexOfChar_4cfef_0 rfl rfl ?_
  refine x_i2b dJ1_indexOfChar_4cfef_1 ?_
  rw [(fit_ascii hc).2]
  refine x_istore (L' := [(4, _), (0, _), (1, _), (2, _), (3, _)]) dJ1_indexOfChar_4cfef_2 (ble rfl) rfl ?_
  refine x_iload_n 3 dJ1_indexOfChar_4cfef_4 rfl rfl ?_
  refine x_istore (L' := [(5, _), (4, _), (0, _), (1, _), (2, _), (3, _)]) dJ1_indexOfChar_4cfef_5 (ble rfl) rfl ?_
  refine x_locs (L' := [(5, _), (0, _), (3, _), (4, _)]) [0, 2, 5, 1] rfl ?_
  refine dn (P := fun i => lowD (-1) (fun j => decide (tsC k j = c)) (tsLen k) (tsLen k - i) = lowD (-1) (fun j => decide (tsC k j = c)) (tsLen k) (tsLen k) → XX l G mJ1_indexOfChar_4cfef (Rm 1 0 0) (KQ G (Rm 1 0 0) (fun w h' => w = some (.int (lowD (-1) (fun j => decide (tsC k j = c)) (tsLen k) (tsLen k))) ∧ h' = h)) 0 0 7 [(5, .int (nI i)), (0, .ref (G.2.2.2 (40 + k))), (3, .int (nI (tsLen k))), (4, .int c)] [] h) (n := tsLen k) ?_ (fun i hi ihi => ?_) rfl
  · intro he
    refine x_iload 0 dJ1_indexOfChar_4cfef_7 rfl ?_
    refine x_iload_n 2 dJ1_indexOfChar_4cfef_9 rfl rfl ?_
    refine x_icmp_ge 31 dJ1_indexOfChar_4cfef_10 (by decide) (fun _ => ?_) (fun z => by first | exact absurd (Int32.le_refl _) z | exact absurd z (Int32.le_refl _))
    refine x_iconst (v := -1) dJ1_indexOfChar_4cfef_31 rfl ?_
    refine x_iret rfl dJ1_indexOfChar_4cfef_32 ?_
    refine ⟨congrArg (fun z => some (Value.int z)) ?_, rfl⟩
    first | (rw [lowD_at hi, if_pos (by simp_all [nI_clamp (show i < 2 ^ 31 by omega)])] at he; exact he) | (rw [Nat.sub_self] at he; exact he)
  · intro he
    refine x_iload 0 dJ1_indexOfChar_4cfef_7 rfl ?_
    refine x_iload_n 2 dJ1_indexOfChar_4cfef_9 rfl rfl ?_
    refine x_icmp_ge 31 dJ1_indexOfChar_4cfef_10 (by decide) (fun z => by first | exact absurd z (nI_ge hi (by omega)) | exact absurd (nI_ge hi (by omega)) z) (fun _ => ?_)
    first | refine x_aload_n 1 dJ1_indexOfChar_4cfef_13 rfl rfl ?_ | refine x_aload_nN 1 dJ1_indexOfChar_4cfef_13 rfl rfl ?_
    refine x_iload 0 dJ1_indexOfChar_4cfef_14 rfl ?_
    refine x_tbld (zT_tab (by assumption)) (vp_in_nI (by omega) (by omega)) dJ1_indexOfChar_4cfef_16 ?_
    refine x_iload 3 dJ1_indexOfChar_4cfef_17 rfl ?_
    refine x_icmp_ne 25 dJ1_indexOfChar_4cfef_19 (by decide) (fun c19 => ?_) (fun c19 => ?_)
    · refine x_iinc (L' := [(5, _), (0, _), (3, _), (4, _)]) (j := 0) (nI (_ + 1)) dJ1_indexOfChar_4cfef_25 rfl (nI_1 _) (ble rfl) rfl ?_
      refine x_goto 7 dJ1_indexOfChar_4cfef_28 (by decide) ?_
      refine x_locs (L' := [(5, _), (0, _), (3, _), (4, _)]) [0, 1, 2, 3] rfl ?_
      refine ihi ?_
      rw [lowD_at hi, if_neg (by simp_all [nI_clamp (show i < 2 ^ 31 by omega)])] at he
      exact he
    · refine x_iload 0 dJ1_indexOfChar_4cfef_22 rfl ?_
      refine x_iret rfl dJ1_indexOfChar_4cfef_24 ?_
      refine ⟨congrArg (fun z => some (Value.int z)) ?_, rfl⟩
      first | (rw [lowD_at hi, if_pos (by simp_all [nI_clamp (show i < 2 ^ 31 by omega)])] at he; exact he) | (rw [Nat.sub_self] at he; exact he)
theorem cE_i {c : Int32} (hc : 0 ≤ c ∧ c < 128) : ¬ c < 0 ∧ ¬ 255 < c := by
  have h1 : Int32.toInt 128 = 128 := rfl
  have h2 : Int32.toInt 255 = 255 := rfl
  have h0 : Int32.toInt 0 = 0 := rfl
  simp only [Int32.lt_iff_toInt_lt, Int32.le_iff_toInt_le] at *
  omega
set_option maxRecDepth 100000 in
set_option maxHeartbeats 4000000 in
theorem ct_J1_canEncode_9a6ad {l : Launch} {G : Gl} {h : Hp} {c : Int32} (hc : 0 ≤ c ∧ c < 128) : CtR l G mJ1_canEncode_9a6ad 1 [.int c] h (some (.int 1)) (h) := by
  refine Ct.of (L := [(0, _)]) (by decide) (ble rfl) rfl ?_
  refine x_iload_n 0 dJ1_canEncode_9a6ad_0 rfl rfl ?_
  refine x_if_lt 15 dJ1_canEncode_9a6ad_1 (by decide) (fun z => by first | exact absurd z ((cE_i hc).1) | exact absurd ((cE_i hc).1) z) (fun _ => ?_)
  refine x_iload_n 0 dJ1_canEncode_9a6ad_4 rfl rfl ?_
  refine x_sipush (v := 255) dJ1_canEncode_9a6ad_5 rfl ?_
  refine x_icmp_gt 15 dJ1_canEncode_9a6ad_8 (by decide) (fun z => by first | exact absurd z ((cE_i hc).2) | exact absurd ((cE_i hc).2) z) (fun _ => ?_)
  refine x_iconst (v := 1) dJ1_canEncode_9a6ad_11 rfl ?_
  refine x_goto 16 dJ1_canEncode_9a6ad_12 (by decide) ?_
  refine x_zret rfl (by first | rfl | (split <;> rfl) | (unfold b2i; split <;> rfl)) dJ1_canEncode_9a6ad_16 ?_
  exact ⟨rfl, rfl⟩
set_option maxRecDepth 100000 in
set_option maxHeartbeats 4000000 in
theorem ct_J1_indexOf_4cfef {l : Launch} {G : Gl} {h : Hp} {k : Nat} (hk : k < 12) (hL0 : 0 < tsLen k) {c : Int32} (hc : 0 ≤ c ∧ c < 128) : CtR l G mJ1_indexOf_4cfef 2 [.ref (G.2.2.2 (40 + k)), .int c, .int 0, .int (nI (tsLen k))] h (some (.int (lowD (-1) (fun j => decide (tsC k j = c)) (tsLen k) (tsLen k)))) (h) := by
  have hL := tsLen_le k hk
  refine Ct.of (L := [(0, _), (1, _), (2, _), (3, _)]) (by decide) (ble rfl) rfl ?_
  refine x_iload_n 1 dJ1_indexOf_4cfef_0 rfl rfl ?_
  refine x_cS1 (As := [.int _]) (ct_J1_canEncode_9a6ad hc) vJ1_88 rfl rfl ⟨ble rfl, ble rfl⟩ (ble rfl) dJ1_indexOf_4cfef_1 rfl ?_
  refine x_if_ne 9 dJ1_indexOf_4cfef_4 (by decide) (fun _ => ?_) (fun z => by first | exact absurd (by decide) z | exact absurd z (by decide))
  refine x_iload_n 2 dJ1_indexOf_4cfef_9 rfl rfl ?_
  refine x_iconst (v := 0) dJ1_indexOf_4cfef_10 rfl ?_
  refine x_mmax rfl wJ1_92 wMmax2 wMath3 wMmax4 (ble rfl) (ble rfl) dJ1_indexOf_4cfef_11 ?_
  rw [show (if (0 : Int32) < 0 then (0 : Int32) else 0) = 0 from rfl]
  refine x_istore_n (L' := [(2, _), (0, _), (1, _), (3, _)]) dJ1_indexOf_4cfef_14 rfl (ble rfl) rfl ?_
  refine x_iload_n 3 dJ1_indexOf_4cfef_15 rfl rfl ?_
  first | refine x_aload_n 1 dJ1_indexOf_4cfef_16 rfl rfl ?_ | refine x_aload_nN 1 dJ1_indexOf_4cfef_16 rfl rfl ?_
  refine x_tlen (zT_tab (by assumption)) (v := nI (tsLen k)) rfl dJ1_indexOf_4cfef_17 ?_
  refine x_mmin rfl wJ1_38 wMmin2 wMath3 wMmin4 (ble rfl) (ble rfl) dJ1_indexOf_4cfef_18 ?_
  rw [show (if nI (tsLen k) < nI (tsLen k) then nI (tsLen k) else nI (tsLen k)) = nI (tsLen k) from if_neg (nI_nlt (Nat.le_refl _) (by omega))]
  refine x_istore_n (L' := [(3, _), (2, _), (0, _), (1, _)]) dJ1_indexOf_4cfef_21 rfl (ble rfl) rfl ?_
  refine x_iload_n 1 dJ1_indexOf_4cfef_22 rfl rfl ?_
  refine x_iload_n 0 dJ1_indexOf_4cfef_23 rfl rfl ?_
  refine x_icmp_lt 29 dJ1_indexOf_4cfef_24 (by decide) (fun _ => ?_) (fun z => by first | exact absurd (nI_lt hL0 (by omega)) z | exact absurd z (nI_lt hL0 (by omega)))
  first | refine x_aload_n 2 dJ1_indexOf_4cfef_29 rfl rfl ?_ | refine x_aload_nN 2 dJ1_indexOf_4cfef_29 rfl rfl ?_
  refine x_iload_n 3 dJ1_indexOf_4cfef_30 rfl rfl ?_
  refine x_iload_n 1 dJ1_indexOf_4cfef_31 rfl rfl ?_
  refine x_iload_n 0 dJ1_indexOf_4cfef_32 rfl rfl ?_
  refine x_cS1 (As := [.ref _, .int _, .int _, .int _]) (ct_J1_indexOfChar_4cfef hk hc) vJ1_95 rfl rfl ⟨ble rfl, ble rfl⟩ (ble rfl) dJ1_indexOf_4cfef_33 rfl ?_
  refine x_iret rfl dJ1_indexOf_4cfef_36 ?_
  exact ⟨rfl, rfl⟩
set_option maxRecDepth 100000 in
set_option maxHeartbeats 4000000 in
theorem ct_J0_indexOf_7cf53 {l : Launch} {G : Gl} {h : Hp} {k : Nat} (hk : k < 12) (hL0 : 0 < tsLen k) {c : Int32} (hc : 0 ≤ c ∧ c < 128) : CtR l G mJ0_indexOf_7cf53 3 [.ref (G.2.2.2 (20 + k)), .int c, .int 0] h (some (.int (lowD (-1) (fun j => decide (tsC k j = c)) (tsLen k) (tsLen k)))) (h) := by
  refine Ct.of (L := [(0, _), (1, _), (2, _)]) (by decide) (ble rfl) rfl ?_
  first | refine x_aload_n 0 dJ0_indexOf_7cf53_0 rfl rfl ?_ | refine x_aload_nN 0 dJ0_indexOf_7cf53_0 rfl rfl ?_
  refine x_cV1 (As := []) (ct_J0_isLatin1_aae02 (by assumption)) vJ0_492 rfl (x_recvO (zT_obj (by assumption))) rfl ⟨ble rfl, ble rfl⟩ (ble rfl) dJ0_indexOf_7cf53_1 rfl ?_
  refine x_if_eq 23 dJ0_indexOf_7cf53_4 (by decide) (fun z => by first | exact absurd z (by decide) | exact absurd (by decide) z) (fun _ => ?_)
  first | refine x_aload_n 0 dJ0_indexOf_7cf53_7 rfl rfl ?_ | refine x_aload_nN 0 dJ0_indexOf_7cf53_7 rfl rfl ?_
  refine x_getO (zT_value (by assumption)) rfl oJ0_9 dJ0_indexOf_7cf53_8 ?_
  refine x_iload_n 1 dJ0_indexOf_7cf53_11 rfl rfl ?_
  refine x_iload_n 2 dJ0_indexOf_7cf53_12 rfl rfl ?_
  first | refine x_aload_n 0 dJ0_indexOf_7cf53_13 rfl rfl ?_ | refine x_aload_nN 0 dJ0_indexOf_7cf53_13 rfl rfl ?_
  refine x_cV1 (As := []) (ct_J0_length_8abf5 (by assumption)) vJ0_505 rfl (x_recvO (zT_obj (by assumption))) rfl ⟨ble rfl, ble rfl⟩ (ble rfl) dJ0_indexOf_7cf53_14 rfl ?_
  refine x_cS1 (As := [.ref _, .int _, .int _, .int _]) (ct_J1_indexOf_4cfef hk hL0 hc) vJ0_637 rfl rfl ⟨ble rfl, ble rfl⟩ (ble rfl) dJ0_indexOf_7cf53_17 rfl ?_
  refine x_goto 36 dJ0_indexOf_7cf53_20 (by decide) ?_
  refine x_iret rfl dJ0_indexOf_7cf53_36 ?_
  exact ⟨rfl, rfl⟩
set_option maxRecDepth 100000 in
set_option maxHeartbeats 4000000 in
theorem ct_J0_indexOf_0f7a4 {l : Launch} {G : Gl} {h : Hp} {k : Nat} (hk : k < 12) (hL0 : 0 < tsLen k) {c : Int32} (hc : 0 ≤ c ∧ c < 128) : CtR l G mJ0_indexOf_0f7a4 4 [.ref (G.2.2.2 (20 + k)), .int c] h (some (.int (lowD (-1) (fun j => decide (tsC k j = c)) (tsLen k) (tsLen k)))) (h) := by
  refine Ct.of (L := [(0, _), (1, _)]) (by decide) (ble rfl) rfl ?_
  first | refine x_aload_n 0 dJ0_indexOf_0f7a4_0 rfl rfl ?_ | refine x_aload_nN 0 dJ0_indexOf_0f7a4_0 rfl rfl ?_
  refine x_iload_n 1 dJ0_indexOf_0f7a4_1 rfl rfl ?_
  refine x_iconst (v := 0) dJ0_indexOf_0f7a4_2 rfl ?_
  refine x_cV1 (As := [.int _, .int _]) (ct_J0_indexOf_7cf53 hk hL0 hc) vJ0_633 rfl (x_recvO (zT_obj (by assumption))) rfl ⟨ble rfl, ble rfl⟩ (ble rfl) dJ0_indexOf_0f7a4_3 rfl ?_
  refine x_iret rfl dJ0_indexOf_0f7a4_6 ?_
  exact ⟨rfl, rfl⟩
theorem ix_0 {k : Nat} (hL0 : 0 < tsLen k) (c : Int32) (hk : k < 12) : lowD (-1) (fun j => decide (tsC k j = c)) (tsLen k) (tsLen k) = 0 ↔ tsC k 0 = c := by
  have hL := tsLen_le k hk
  have e := lowD_at (d := -1) (p := fun j => decide (tsC k j = c)) hL0
  rw [Nat.sub_zero] at e
  rw [e]
  by_cases q : tsC k 0 = c
  · rw [if_pos (by simpa using q)]
    exact ⟨fun _ => q, fun _ => rfl⟩
  · rw [if_neg (by simpa using q)]
    refine ⟨fun h => ?_, fun h => absurd h q⟩
    exfalso
    have key : ∀ r, r ≤ tsLen k - 1 → lowD (-1) (fun j => decide (tsC k j = c)) (tsLen k) r ≠ 0 := by
      intro r
      induction r with
      | zero => intro _; exact (by decide : (-1 : Int32) ≠ 0)
      | succ r ih =>
        intro hr
        show (if _ then _ else _) ≠ _
        split
        · exact nI_ne0 (by omega) (by omega)
        · exact ih (by omega)
    exact key _ (Nat.le_refl _) h
/-- the verb that begins so, among the first r of them from the last -/
def vOf (tx : List Int32) (at0 : Nat) : Option Nat := if at0 < tx.length then (List.range 6).find? (fun v => decide (tsC (3 + v) 0 = tx.getD at0 0)) else none
theorem ts_dist : ∀ u, u < 6 → ∀ v, v < 6 → tsC (3 + u) 0 = tsC (3 + v) 0 → u = v := by decide +kernel
theorem ts_pos : ∀ v, v < 6 → 0 < tsLen (3 + v) := by decide +kernel
set_option maxRecDepth 100000 in
set_option maxHeartbeats 4000000 in
theorem ct_sw_in {l : Launch} {G : Gl} {h : Hp} {v : Nat} (hv : v < 6) {c : Int32} (hc : 0 ≤ c ∧ c < 128) (he : tsC (3 + v) 0 = c) : CtR l G mX10_startingWith 5 [.int c] h (some (.ref (G.2.2.2 (3 + v)))) (h) := by
  refine Ct.of (L := [(0, _)]) (by decide) (ble rfl) rfl ?_
  refine x_iconst (v := 0) dX10_startingWith_0 rfl ?_
  refine x_istore_n (L' := [(1, _), (0, _)]) dX10_startingWith_1 rfl (ble rfl) rfl ?_
  refine x_locs (L' := [(1, _), (0, _)]) [0, 1] rfl ?_
  refine dn (P := fun i => XX l G mX10_startingWith (Rm 5 0 0) (KQ G (Rm 5 0 0) (fun w h' => w = some (.ref (G.2.2.2 (3 + v))) ∧ h' = h)) 0 0 2 [(1, .int (nI i)), (0, .int c)] [] h) (n := v) ?_ (fun i hi ihi => ?_)
  · have hiv : v < 6 := hv
    refine x_iload_n 0 dX10_startingWith_2 rfl rfl ?_
    refine x_gets zV_ALL rfl oX10_49 dX10_startingWith_3 ?_
    refine x_tlen zV_ALLt (v := 6) rfl dX10_startingWith_6 ?_
    refine x_icmp_ge 37 dX10_startingWith_7 (by decide) (fun z => by first | exact absurd z (show ¬ nI 6 ≤ nI v from nI_ge hv (by omega)) | exact absurd (show ¬ nI 6 ≤ nI v from nI_ge hv (by omega)) z) (fun _ => ?_)
    refine x_gets zV_ALL rfl oX10_49 dX10_startingWith_10 ?_
    refine x_iload_n 0 dX10_startingWith_13 rfl rfl ?_
    refine x_tald zV_ALLt (vp_in_nI (by omega) (by omega)) dX10_startingWith_14 ?_
    rw [nI_clamp (by omega)]
    refine x_getO (zV_word hiv) rfl oX10_41 dX10_startingWith_15 ?_
    rw [show ∀ z : Nat, 23 + z = 20 + (3 + z) from fun z => by omega]
    refine x_iload_n 1 dX10_startingWith_18 rfl rfl ?_
    refine x_cV1 (As := [.int _]) (ct_J0_indexOf_0f7a4 (by omega) (ts_pos _ hiv) hc) vX10_52 rfl (x_recvO (zT_obj (by omega))) rfl ⟨ble rfl, ble rfl⟩ (ble rfl) dX10_startingWith_19 rfl ?_
    refine x_if_ne 31 dX10_startingWith_22 (by decide) (fun z => by first | exact absurd z ((ix_0 (ts_pos v hv) c (by omega)).mpr he) | exact absurd ((ix_0 (ts_pos v hv) c (by omega)).mpr he) z) (fun _ => ?_)
    refine x_gets zV_ALL rfl oX10_49 dX10_startingWith_25 ?_
    refine x_iload_n 0 dX10_startingWith_28 rfl rfl ?_
    refine x_tald zV_ALLt (vp_in_nI (by omega) (by omega)) dX10_startingWith_29 ?_
    refine x_aret rfl (by first | exact Or.inl ⟨_, rfl⟩ | exact Or.inr ⟨_, rfl⟩) (by first | exact Or.inl rfl | exact Or.inr ⟨_, rfl⟩ | assumption) dX10_startingWith_30 ?_
    exact ⟨by rw [nI_clamp (by omega)], rfl⟩
  · have hiv : i < 6 := by omega
    refine x_iload_n 0 dX10_startingWith_2 rfl rfl ?_
    refine x_gets zV_ALL rfl oX10_49 dX10_startingWith_3 ?_
    refine x_tlen zV_ALLt (v := 6) rfl dX10_startingWith_6 ?_
    refine x_icmp_ge 37 dX10_startingWith_7 (by decide) (fun z => by first | exact absurd z (show ¬ nI 6 ≤ nI i from nI_ge (by omega) (by omega)) | exact absurd (show ¬ nI 6 ≤ nI i from nI_ge (by omega) (by omega)) z) (fun _ => ?_)
    refine x_gets zV_ALL rfl oX10_49 dX10_startingWith_10 ?_
    refine x_iload_n 0 dX10_startingWith_13 rfl rfl ?_
    refine x_tald zV_ALLt (vp_in_nI (by omega) (by omega)) dX10_startingWith_14 ?_
    rw [nI_clamp (by omega)]
    refine x_getO (zV_word hiv) rfl oX10_41 dX10_startingWith_15 ?_
    rw [show ∀ z : Nat, 23 + z = 20 + (3 + z) from fun z => by omega]
    refine x_iload_n 1 dX10_startingWith_18 rfl rfl ?_
    refine x_cV1 (As := [.int _]) (ct_J0_indexOf_0f7a4 (by omega) (ts_pos _ hiv) hc) vX10_52 rfl (x_recvO (zT_obj (by omega))) rfl ⟨ble rfl, ble rfl⟩ (ble rfl) dX10_startingWith_19 rfl ?_
    refine x_if_ne 31 dX10_startingWith_22 (by decide) (fun _ => ?_) (fun z => by first | exact absurd (fun q => (fun q => by have := ts_dist i (by omega) v hv (q.trans he.symm); omega) ((ix_0 (ts_pos i (by omega)) c (by omega)).mp q)) z | exact absurd z (fun q => (fun q => by have := ts_dist i (by omega) v hv (q.trans he.symm); omega) ((ix_0 (ts_pos i (by omega)) c (by omega)).mp q)))
    refine x_iinc (L' := [(1, _), (0, _)]) (j := 0) (nI (_ + 1)) dX10_startingWith_31 rfl (nI_1 _) (ble rfl) rfl ?_
    refine x_goto 2 dX10_startingWith_34 (by decide) ?_
    refine x_locs (L' := [(1, _), (0, _)]) [0, 1] rfl ?_
    exact ihi
set_option maxRecDepth 100000 in
set_option maxHeartbeats 4000000 in
theorem ct_sw_out {l : Launch} {G : Gl} {h : Hp} {c : Int32} (hc : 0 ≤ c ∧ c < 128) (he : ∀ i, i < 6 → ¬ tsC (3 + i) 0 = c) : CtR l G mX10_startingWith 5 [.int c] h (some .null) (h) := by
  refine Ct.of (L := [(0, _)]) (by decide) (ble rfl) rfl ?_
  refine x_iconst (v := 0) dX10_startingWith_0 rfl ?_
  refine x_istore_n (L' := [(1, _), (0, _)]) dX10_startingWith_1 rfl (ble rfl) rfl ?_
  refine x_locs (L' := [(1, _), (0, _)]) [0, 1] rfl ?_
  refine dn (P := fun i => XX l G mX10_startingWith (Rm 5 0 0) (KQ G (Rm 5 0 0) (fun w h' => w = some .null ∧ h' = h)) 0 0 2 [(1, .int (nI i)), (0, .int c)] [] h) (n := 6) ?_ (fun i hi ihi => ?_)
  · refine x_iload_n 0 dX10_startingWith_2 rfl rfl ?_
    refine x_gets zV_ALL rfl oX10_49 dX10_startingWith_3 ?_
    refine x_tlen zV_ALLt (v := 6) rfl dX10_startingWith_6 ?_
    refine x_icmp_ge 37 dX10_startingWith_7 (by decide) (fun _ => ?_) (fun z => by first | exact absurd (Int32.le_refl _) z | exact absurd z (Int32.le_refl _))
    refine x_null dX10_startingWith_37 ?_
    refine x_aret rfl (by first | exact Or.inl ⟨_, rfl⟩ | exact Or.inr ⟨_, rfl⟩) (by first | exact Or.inl rfl | exact Or.inr ⟨_, rfl⟩ | assumption) dX10_startingWith_38 ?_
    exact ⟨rfl, rfl⟩
  · have hiv : i < 6 := by omega
    refine x_iload_n 0 dX10_startingWith_2 rfl rfl ?_
    refine x_gets zV_ALL rfl oX10_49 dX10_startingWith_3 ?_
    refine x_tlen zV_ALLt (v := 6) rfl dX10_startingWith_6 ?_
    refine x_icmp_ge 37 dX10_startingWith_7 (by decide) (fun z => by first | exact absurd z (show ¬ nI 6 ≤ nI i from nI_ge (by omega) (by omega)) | exact absurd (show ¬ nI 6 ≤ nI i from nI_ge (by omega) (by omega)) z) (fun _ => ?_)
    refine x_gets zV_ALL rfl oX10_49 dX10_startingWith_10 ?_
    refine x_iload_n 0 dX10_startingWith_13 rfl rfl ?_
    refine x_tald zV_ALLt (vp_in_nI (by omega) (by omega)) dX10_startingWith_14 ?_
    rw [nI_clamp (by omega)]
    refine x_getO (zV_word hiv) rfl oX10_41 dX10_startingWith_15 ?_
    rw [show ∀ z : Nat, 23 + z = 20 + (3 + z) from fun z => by omega]
    refine x_iload_n 1 dX10_startingWith_18 rfl rfl ?_
    refine x_cV1 (As := [.int _]) (ct_J0_indexOf_0f7a4 (by omega) (ts_pos _ hiv) hc) vX10_52 rfl (x_recvO (zT_obj (by omega))) rfl ⟨ble rfl, ble rfl⟩ (ble rfl) dX10_startingWith_19 rfl ?_
    refine x_if_ne 31 dX10_startingWith_22 (by decide) (fun _ => ?_) (fun z => by first | exact absurd (fun q => (he i hi) ((ix_0 (ts_pos i (by omega)) c (by omega)).mp q)) z | exact absurd z (fun q => (he i hi) ((ix_0 (ts_pos i (by omega)) c (by omega)).mp q)))
    refine x_iinc (L' := [(1, _), (0, _)]) (j := 0) (nI (_ + 1)) dX10_startingWith_31 rfl (nI_1 _) (ble rfl) rfl ?_
    refine x_goto 2 dX10_startingWith_34 (by decide) ?_
    refine x_locs (L' := [(1, _), (0, _)]) [0, 1] rfl ?_
    exact ihi
