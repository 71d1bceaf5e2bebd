set_option maxRecDepth 100000 in
set_option maxHeartbeats 4000000 in
theorem ct_app_c {l : Launch} {G : Gl} {h : Hp} {a b m : Nat} {tx : List Int32} (T : SBTm G h a tx b m) (hA : G.2.2.1 a) (hAll : ∀ i, nmU i → h (Ad G i) ≠ none) {c : Int32} (hc : 0 ≤ c ∧ c < 128) (hl64 : tx.length + 1 ≤ 64) : CtP l G mJ5_append_3fe6f 4 (1) (130) [.ref a, .int c] h (some (.ref a)) (fun h' => SBP G h a b (tx ++ [c]) h') := by
  have T0 := T
  obtain ⟨ml, f, ha, hb, hab, hB, hl, hm, hfit, hf, hAd⟩ := T
  refine Ct.of (L := [(0, _), (1, _)]) (by decide) (ble rfl) rfl ?_
  first | refine x_aload_n 0 dJ5_append_3fe6f_0 rfl rfl ?_ | refine x_aload_nN 0 dJ5_append_3fe6f_0 rfl rfl ?_
  first | refine x_aload_n 0 dJ5_append_3fe6f_1 rfl rfl ?_ | refine x_aload_nN 0 dJ5_append_3fe6f_1 rfl rfl ?_
  refine x_get fJ5_79 rfl dJ5_append_3fe6f_2 (by with_reducible repeat first | assumption | exact hset_s | refine hget_n (by first | assumption | exact Ne.symm (by assumption) | exact nA (by assumption) (by omega) (by omega) (by omega)) ?_) (by rfl) ?_
  refine x_iconst (v := 1) dJ5_append_3fe6f_5 rfl ?_
  refine x_iadd dJ5_append_3fe6f_6 ?_
  rw [nI_1]
  refine x_qP0 (mc1 := 0) (ms1 := 0) (As := [.int _]) (ct_ensT T0 hA hAll (q := tx.length + 1) (by omega)) qJ5_100 rfl (x_recv (by with_reducible repeat first | assumption | exact hset_s | refine hget_n (by first | assumption | exact Ne.symm (by assumption) | exact nA (by assumption) (by omega) (by omega) (by omega)) ?_) rfl) rfl ⟨ble rfl, ble rfl⟩ (ble rfl) dJ5_append_3fe6f_7 rfl ⟨by omega, by omega⟩ (fun h9 q7 => ?_)
  obtain ⟨b1, m1, ⟨ml1, f1, ha1, hb1, hab1, hB1, hl1, hmm1, hfit1, hf1, hAd1⟩, hq1, hbb, F1⟩ := q7
  first | refine x_aload_n 0 dJ5_append_3fe6f_10 rfl rfl ?_ | refine x_aload_nN 0 dJ5_append_3fe6f_10 rfl rfl ?_
  refine x_qR1 (As := []) (ct_J5_isLatin1_aae02 (by with_reducible repeat first | assumption | exact hset_s | refine hget_n (by first | assumption | exact Ne.symm (by assumption) | exact nA (by assumption) (by omega) (by omega) (by omega)) ?_)) qJ5_83 rfl (x_recv (by with_reducible repeat first | assumption | exact hset_s | refine hget_n (by first | assumption | exact Ne.symm (by assumption) | exact nA (by assumption) (by omega) (by omega) (by omega)) ?_) rfl) rfl ⟨ble rfl, ble rfl⟩ (ble rfl) dJ5_append_3fe6f_11 rfl ?_
  refine x_if_eq 45 dJ5_append_3fe6f_14 (by decide) (fun z => by first | exact absurd z (by decide) | exact absurd (by decide) z) (fun _ => ?_)
  refine x_iload_n 1 dJ5_append_3fe6f_17 rfl rfl ?_
  refine x_cS1 (As := [.int _]) (ct_J1_canEncode_fc78d hc.2) vJ5_191 rfl rfl ⟨ble rfl, ble rfl⟩ (ble rfl) dJ5_append_3fe6f_18 rfl ?_
  refine x_if_eq 45 dJ5_append_3fe6f_21 (by decide) (fun z => by first | exact absurd z (by decide) | exact absurd (by decide) z) (fun _ => ?_)
  first | refine x_aload_n 0 dJ5_append_3fe6f_24 rfl rfl ?_ | refine x_aload_nN 0 dJ5_append_3fe6f_24 rfl rfl ?_
  refine x_get fJ5_15 rfl dJ5_append_3fe6f_25 (by with_reducible repeat first | assumption | exact hset_s | refine hget_n (by first | assumption | exact Ne.symm (by assumption) | exact nA (by assumption) (by omega) (by omega) (by omega)) ?_) (by rfl) ?_
  first | refine x_aload_n 0 dJ5_append_3fe6f_28 rfl rfl ?_ | refine x_aload_nN 0 dJ5_append_3fe6f_28 rfl rfl ?_
  refine x_dup dJ5_append_3fe6f_29 rfl ?_
  refine x_get fJ5_79 rfl dJ5_append_3fe6f_30 (by with_reducible repeat first | assumption | exact hset_s | refine hget_n (by first | assumption | exact Ne.symm (by assumption) | exact nA (by assumption) (by omega) (by omega) (by omega)) ?_) (by rfl) ?_
  refine x_dup_x1 dJ5_append_3fe6f_33 rfl rfl ?_
  refine x_iconst (v := 1) dJ5_append_3fe6f_34 rfl ?_
  refine x_iadd dJ5_append_3fe6f_35 ?_
  refine x_put fJ5_79 rfl rfl rfl rfl dJ5_append_3fe6f_36 (by with_reducible repeat first | assumption | exact hset_s | refine hget_n (by first | assumption | exact Ne.symm (by assumption) | exact nA (by assumption) (by omega) (by omega) (by omega)) ?_) (by exact ble rfl) (by first | assumption | exact aA (by assumption) (by omega)) ?_
  refine x_iload_n 1 dJ5_append_3fe6f_39 rfl rfl ?_
  refine x_i2b dJ5_append_3fe6f_40 ?_
  refine x_bast dJ5_append_3fe6f_41 (by with_reducible repeat first | assumption | exact hset_s | refine hget_n (by first | assumption | exact Ne.symm (by assumption) | exact nA (by assumption) (by omega) (by omega) (by omega)) ?_) (by exact vp_in_nI (by omega) (by omega)) (by first | assumption | exact aA (by assumption) (by omega)) ?_
  refine x_goto 75 dJ5_append_3fe6f_42 (by decide) ?_
  first | refine x_aload_n 0 dJ5_append_3fe6f_75 rfl rfl ?_ | refine x_aload_nN 0 dJ5_append_3fe6f_75 rfl rfl ?_
  refine x_aret rfl (by first | exact Or.inl ⟨_, rfl⟩ | exact Or.inr ⟨_, rfl⟩) (by first | exact Or.inl rfl | exact Or.inr ⟨_, rfl⟩ | assumption) dJ5_append_3fe6f_76 ?_
  refine ⟨rfl, b1, ⟨m1, ml1, upd f1 tx.length c, ?_, ?_, hab1, hB1, ?_, hmm1, ?_, ?_, hAd1⟩, hbb, ((F1.sn (Or.inl (Or.inl rfl))).sn (by rcases hbb with z | z; exact Or.inl (Or.inr z); exact Or.inr z))⟩
  · rw [List.length_append]; exact hget_n hab1 (by rw [hset_s, List.length_singleton, ← nI_1]; rfl)
  · rw [hset_s, nI_clamp (by omega), (fit_ascii hc).2, (fit_ascii hc).2]
  · rw [List.length_append]; exact hq1
  · intro i hi; by_cases q : i = tx.length
    · rw [upd, if_pos q]; exact (fit_ascii hc).1
    · rw [upd, if_neg q]; exact hfit1 i hi
  · refine app_ok [c] hf1 (fun i hi => by rw [upd, if_neg (by omega)]) (fun j hj => ?_)
    obtain rfl : j = 0 := by simpa using hj
    rw [upd, if_pos (Nat.add_zero _)]; rfl
set_option maxRecDepth 100000 in
set_option maxHeartbeats 4000000 in
theorem ct_sb_c {l : Launch} {G : Gl} {h : Hp} {a b m : Nat} {tx : List Int32} (T : SBTm G h a tx b m) (hA : G.2.2.1 a) (hAll : ∀ i, nmU i → h (Ad G i) ≠ none) {c : Int32} (hc : 0 ≤ c ∧ c < 128) (hl64 : tx.length + 1 ≤ 64) : CtP l G mJ4_append_cf468 5 (1) (130) [.ref a, .int c] h (some (.ref a)) (fun h' => SBP G h a b (tx ++ [c]) h') := by
  have T0 := T
  obtain ⟨ml, f, ha, hb, hab, hB, hl, hm, hfit, hf, hAd⟩ := T
  refine Ct.of (L := [(0, _), (1, _)]) (by decide) (ble rfl) rfl ?_
  first | refine x_aload_n 0 dJ4_append_cf468_0 rfl rfl ?_ | refine x_aload_nN 0 dJ4_append_cf468_0 rfl rfl ?_
  refine x_iload_n 1 dJ4_append_cf468_1 rfl rfl ?_
  refine x_suP1 (mc1 := 0) (ms1 := 0) (As := [.int _]) (ct_app_c T0 hA hAll hc hl64) qJ4_50 rfl (x_recv (by with_reducible repeat first | assumption | exact hset_s | refine hget_n (by first | assumption | exact Ne.symm (by assumption) | exact nA (by assumption) (by omega) (by omega) (by omega)) ?_) rfl) rfl ⟨ble rfl, ble rfl⟩ (ble rfl) dJ4_append_cf468_2 rfl ⟨by omega, by omega⟩ (fun h2 q2 => ?_)
  refine x_pop dJ4_append_cf468_5 rfl ?_
  first | refine x_aload_n 0 dJ4_append_cf468_6 rfl rfl ?_ | refine x_aload_nN 0 dJ4_append_cf468_6 rfl rfl ?_
  refine x_aret rfl (by first | exact Or.inl ⟨_, rfl⟩ | exact Or.inr ⟨_, rfl⟩) (by first | exact Or.inl rfl | exact Or.inr ⟨_, rfl⟩ | assumption) dJ4_append_cf468_7 ?_
  exact ⟨rfl, q2⟩
set_option maxRecDepth 100000 in
set_option maxHeartbeats 4000000 in
theorem ct_J0_coder_7d493 {l : Launch} {G : Gl} {h : Hp} {k : Nat} (hk : k < 12) : CtR l G mJ0_coder_7d493 1 [.ref (G.2.2.2 (20 + k))] h (some (.int 0)) (h) := by
  refine Ct.of (L := [(0, _)]) (by decide) (ble rfl) rfl ?_
  refine x_gets zCS rfl oJ0_38 dJ0_coder_7d493_0 ?_
  refine x_if_eq 13 dJ0_coder_7d493_3 (by decide) (fun z => by first | exact absurd z (by decide) | exact absurd (by decide) z) (fun _ => ?_)
  first | refine x_aload_n 0 dJ0_coder_7d493_6 rfl rfl ?_ | refine x_aload_nN 0 dJ0_coder_7d493_6 rfl rfl ?_
  refine x_getO (zT_coder (by assumption)) rfl oJ0_15 dJ0_coder_7d493_7 ?_
  refine x_goto 14 dJ0_coder_7d493_10 (by decide) ?_
  refine x_bret rfl (by rfl) dJ0_coder_7d493_14 ?_
  exact ⟨rfl, rfl⟩
set_option maxRecDepth 100000 in
set_option maxHeartbeats 4000000 in
theorem ct_J0_isLatin1_aae02 {l : Launch} {G : Gl} {h : Hp} {k : Nat} (hk : k < 12) : CtR l G mJ0_isLatin1_aae02 1 [.ref (G.2.2.2 (20 + k))] h (some (.int 1)) (h) := by
  refine Ct.of (L := [(0, _)]) (by decide) (ble rfl) rfl ?_
  refine x_gets zCS rfl oJ0_38 dJ0_isLatin1_aae02_0 ?_
  refine x_if_eq 17 dJ0_isLatin1_aae02_3 (by decide) (fun z => by first | exact absurd z (by decide) | exact absurd (by decide) z) (fun _ => ?_)
  first | refine x_aload_n 0 dJ0_isLatin1_aae02_6 rfl rfl ?_ | refine x_aload_nN 0 dJ0_isLatin1_aae02_6 rfl rfl ?_
  refine x_getO (zT_coder (by assumption)) rfl oJ0_15 dJ0_isLatin1_aae02_7 ?_
  refine x_if_ne 17 dJ0_isLatin1_aae02_10 (by decide) (fun z => by first | exact absurd z (by decide) | exact absurd (by decide) z) (fun _ => ?_)
  refine x_iconst (v := 1) dJ0_isLatin1_aae02_13 rfl ?_
  refine x_goto 18 dJ0_isLatin1_aae02_14 (by decide) ?_
  refine x_zret rfl (by first | rfl | (split <;> rfl) | (unfold b2i; split <;> rfl)) dJ0_isLatin1_aae02_18 ?_
  exact ⟨rfl, rfl⟩
set_option maxRecDepth 100000 in
set_option maxHeartbeats 4000000 in
theorem ct_J0_length_8abf5 {l : Launch} {G : Gl} {h : Hp} {k : Nat} (hk : k < 12) : CtR l G mJ0_length_8abf5 2 [.ref (G.2.2.2 (20 + k))] h (some (.int (nI (tsLen k)))) (h) := by
  refine Ct.of (L := [(0, _)]) (by decide) (ble rfl) rfl ?_
  first | refine x_aload_n 0 dJ0_length_8abf5_0 rfl rfl ?_ | refine x_aload_nN 0 dJ0_length_8abf5_0 rfl rfl ?_
  refine x_getO (zT_value (by assumption)) rfl oJ0_9 dJ0_length_8abf5_1 ?_
  refine x_tlen (zT_tab (by assumption)) (v := nI (tsLen k)) rfl dJ0_length_8abf5_4 ?_
  first | refine x_aload_n 0 dJ0_length_8abf5_5 rfl rfl ?_ | refine x_aload_nN 0 dJ0_length_8abf5_5 rfl rfl ?_
  refine x_cV1 (As := []) (ct_J0_coder_7d493 (by assumption)) vJ0_335 rfl (x_recvO (zT_obj (by assumption))) rfl ⟨ble rfl, ble rfl⟩ (ble rfl) dJ0_length_8abf5_6 rfl ?_
  refine x_ishr dJ0_length_8abf5_9 ?_
  rw [sb_shr0]
  refine x_iret rfl dJ0_length_8abf5_10 ?_
  exact ⟨rfl, rfl⟩
set_option maxRecDepth 100000 in
set_option maxHeartbeats 4000000 in
theorem ct_J0_getBytes_840e7 {l : Launch} {G : Gl} {h : Hp} {k b m n : Nat} {f : Nat → Int32} (hk : k < 12) (hb : h b = some (eB G m f)) (hB : G.2.2.1 b) (hm : m ≤ 130) (hn : n + tsLen k ≤ m) : CtP l G mJ0_getBytes_840e7 3 (0) (0) [.ref (G.2.2.2 (20 + k)), .ref b, .int (nI n), .int 0] h (none) (fun h' => h' = hset h b (eB G m (va_cpy (tsC k) f 0 n (tsLen k)))) := by
  have hL := tsLen_le k hk
  refine Ct.of (L := [(0, _), (1, _), (2, _), (3, _)]) (by decide) (ble rfl) rfl ?_
  first | refine x_aload_n 0 dJ0_getBytes_840e7_0 rfl rfl ?_ | refine x_aload_nN 0 dJ0_getBytes_840e7_0 rfl rfl ?_
  refine x_cV1 (As := []) (ct_J0_coder_7d493 (by assumption)) vJ0_335 rfl (x_recvO (zT_obj (by assumption))) rfl ⟨ble rfl, ble rfl⟩ (ble rfl) dJ0_getBytes_840e7_1 rfl ?_
  refine x_iload_n 3 dJ0_getBytes_840e7_4 rfl rfl ?_
  refine x_icmp_ne 28 dJ0_getBytes_840e7_5 (by decide) (fun z => by first | exact absurd z (fun z => z rfl) | exact absurd (fun z => z rfl) z) (fun _ => ?_)
  first | refine x_aload_n 0 dJ0_getBytes_840e7_8 rfl rfl ?_ | refine x_aload_nN 0 dJ0_getBytes_840e7_8 rfl rfl ?_
  refine x_getO (zT_value (by assumption)) rfl oJ0_9 dJ0_getBytes_840e7_9 ?_
  refine x_iconst (v := 0) dJ0_getBytes_840e7_12 rfl ?_
  first | refine x_aload_n 1 dJ0_getBytes_840e7_13 rfl rfl ?_ | refine x_aload_nN 1 dJ0_getBytes_840e7_13 rfl rfl ?_
  refine x_iload_n 2 dJ0_getBytes_840e7_14 rfl rfl ?_
  refine x_iload_n 3 dJ0_getBytes_840e7_15 rfl rfl ?_
  refine x_ishl dJ0_getBytes_840e7_16 ?_
  rw [sb_shl0]
  first | refine x_aload_n 0 dJ0_getBytes_840e7_17 rfl rfl ?_ | refine x_aload_nN 0 dJ0_getBytes_840e7_17 rfl rfl ?_
  refine x_getO (zT_value (by assumption)) rfl oJ0_9 dJ0_getBytes_840e7_18 ?_
  refine x_tlen (zT_tab (by assumption)) (v := nI (tsLen k)) rfl dJ0_getBytes_840e7_21 ?_
  refine x_copy (sp := 0) (dp := n) (n := tsLen k) rfl (List.mem_append_right _ (List.mem_of_getElem? (i := 1156) (by decide +kernel))) (List.mem_append_right _ (List.mem_of_getElem? (i := 426) (by decide +kernel))) (List.mem_append_right _ (List.mem_of_getElem? (i := 425) (by decide +kernel))) (List.mem_append_right _ (List.mem_of_getElem? (i := 21) (by decide +kernel))) (src_st (zT_tab hk)) hb hB ⟨by omega, by omega⟩ (by omega) hn (fun i hi => by rw [Nat.zero_add]; exact (ts_fit k hk i hi).1) (ble rfl) (by show 0 + (nativeFrameWords "java/lang/System" "arraycopy" 5 + 11) ≤ 38 * 3; decide) dJ0_getBytes_840e7_22 ?_
  refine x_goto 43 dJ0_getBytes_840e7_25 (by decide) ?_
  refine x_vret rfl dJ0_getBytes_840e7_43 ?_
  exact ⟨rfl, rfl⟩
set_option maxRecDepth 100000 in
set_option maxHeartbeats 4000000 in
theorem ct_J5_inflateIfNeededFor_a7421 {l : Launch} {G : Gl} {h : Hp} {k : Nat} (hk : k < 12) {a b n : Nat} {ml : Int32} (ha : h a = some (.inr (0, [.ref b, .int 0, .int ml, .int (nI n)]))) : CtR l G mJ5_inflateIfNeededFor_a7421 2 [.ref a, .ref (G.2.2.2 (20 + k))] h (none) (h) := by
  refine Ct.of (L := [(0, _), (1, _)]) (by decide) (ble rfl) rfl ?_
  refine x_gets zCS rfl oJ5_18 dJ5_inflateIfNeededFor_a7421_0 ?_
  refine x_if_eq 21 dJ5_inflateIfNeededFor_a7421_3 (by decide) (fun z => by first | exact absurd z (by decide) | exact absurd (by decide) z) (fun _ => ?_)
  first | refine x_aload_n 0 dJ5_inflateIfNeededFor_a7421_6 rfl rfl ?_ | refine x_aload_nN 0 dJ5_inflateIfNeededFor_a7421_6 rfl rfl ?_
  refine x_get fJ5_22 rfl dJ5_inflateIfNeededFor_a7421_7 (by with_reducible repeat first | assumption | exact hset_s | refine hget_n (by first | assumption | exact Ne.symm (by assumption) | exact nA (by assumption) (by omega) (by omega) (by omega)) ?_) (by rfl) ?_
  first | refine x_aload_n 1 dJ5_inflateIfNeededFor_a7421_10 rfl rfl ?_ | refine x_aload_nN 1 dJ5_inflateIfNeededFor_a7421_10 rfl rfl ?_
  refine x_cV1 (As := []) (ct_J0_coder_7d493 (by assumption)) vJ5_40 rfl (x_recvO (zT_obj (by assumption))) rfl ⟨ble rfl, ble rfl⟩ (ble rfl) dJ5_inflateIfNeededFor_a7421_11 rfl ?_
  refine x_icmp_eq 21 dJ5_inflateIfNeededFor_a7421_14 (by decide) (fun _ => ?_) (fun z => by first | exact absurd (rfl) z | exact absurd z (rfl))
  refine x_vret rfl dJ5_inflateIfNeededFor_a7421_21 ?_
  exact ⟨rfl, rfl⟩
set_option maxRecDepth 100000 in
set_option maxHeartbeats 4000000 in
theorem ct_J5_putStringAt_47b60 {l : Launch} {G : Gl} {h : Hp} {k : Nat} (hk : k < 12) {a b m n : Nat} {ml : Int32} {f : Nat → Int32} (ha : h a = some (.inr (0, [.ref b, .int 0, .int ml, .int (nI n)]))) (hb : h b = some (eB G m f)) (hab : a ≠ b) (hA : G.2.2.1 a) (hB : G.2.2.1 b) (hm : m ≤ 130) {w : Nat} (hn : w + tsLen k ≤ m) : CtP l G mJ5_putStringAt_47b60 4 (0) (0) [.ref a, .int (nI w), .ref (G.2.2.2 (20 + k))] h (none) (fun h' => h' = hset h b (eB G m (va_cpy (tsC k) f 0 w (tsLen k)))) := by
  refine Ct.of (L := [(0, _), (1, _), (2, _)]) (by decide) (ble rfl) rfl ?_
  first | refine x_aload_n 0 dJ5_putStringAt_47b60_0 rfl rfl ?_ | refine x_aload_nN 0 dJ5_putStringAt_47b60_0 rfl rfl ?_
  first | refine x_aload_n 2 dJ5_putStringAt_47b60_1 rfl rfl ?_ | refine x_aload_nN 2 dJ5_putStringAt_47b60_1 rfl rfl ?_
  refine x_qR0 (As := [.ref _]) (ct_J5_inflateIfNeededFor_a7421 (by assumption) (by with_reducible repeat first | assumption | exact hset_s | refine hget_n (by first | assumption | exact Ne.symm (by assumption) | exact nA (by assumption) (by omega) (by omega) (by omega)) ?_)) qJ5_397 rfl (x_recv (by with_reducible repeat first | assumption | exact hset_s | refine hget_n (by first | assumption | exact Ne.symm (by assumption) | exact nA (by assumption) (by omega) (by omega) (by omega)) ?_) rfl) rfl ⟨ble rfl, ble rfl⟩ (ble rfl) dJ5_putStringAt_47b60_2 rfl ?_
  first | refine x_aload_n 2 dJ5_putStringAt_47b60_5 rfl rfl ?_ | refine x_aload_nN 2 dJ5_putStringAt_47b60_5 rfl rfl ?_
  first | refine x_aload_n 0 dJ5_putStringAt_47b60_6 rfl rfl ?_ | refine x_aload_nN 0 dJ5_putStringAt_47b60_6 rfl rfl ?_
  refine x_get fJ5_15 rfl dJ5_putStringAt_47b60_7 (by with_reducible repeat first | assumption | exact hset_s | refine hget_n (by first | assumption | exact Ne.symm (by assumption) | exact nA (by assumption) (by omega) (by omega) (by omega)) ?_) (by rfl) ?_
  refine x_iload_n 1 dJ5_putStringAt_47b60_10 rfl rfl ?_
  first | refine x_aload_n 0 dJ5_putStringAt_47b60_11 rfl rfl ?_ | refine x_aload_nN 0 dJ5_putStringAt_47b60_11 rfl rfl ?_
  refine x_get fJ5_22 rfl dJ5_putStringAt_47b60_12 (by with_reducible repeat first | assumption | exact hset_s | refine hget_n (by first | assumption | exact Ne.symm (by assumption) | exact nA (by assumption) (by omega) (by omega) (by omega)) ?_) (by rfl) ?_
  refine x_pV0 (mc1 := 0) (ms1 := 0) (As := [.ref _, .int _, .int _]) (ct_J0_getBytes_840e7 hk hb hB hm hn) vJ5_399 rfl (x_recvO (zT_obj hk)) rfl ⟨ble rfl, ble rfl⟩ (ble rfl) dJ5_putStringAt_47b60_15 rfl ⟨by omega, by omega⟩ (fun h15 q15 => ?_)
  refine x_vret rfl dJ5_putStringAt_47b60_18 ?_
  exact ⟨rfl, q15⟩
set_option maxRecDepth 100000 in
set_option maxHeartbeats 4000000 in
theorem ct_app_s {l : Launch} {G : Gl} {h : Hp} {a b m : Nat} {tx : List Int32} (T : SBTm G h a tx b m) (hA : G.2.2.1 a) (hAll : ∀ i, nmU i → h (Ad G i) ≠ none) {k : Nat} (hk : k < 12) (hl64 : tx.length + tsLen k ≤ 64) : CtP l G mJ5_append_cf1ce 5 (1) (130) [.ref a, .ref (G.2.2.2 (20 + k))] h (some (.ref a)) (fun h' => SBP G h a b (tx ++ tsL k) h') := by
  have T0 := T
  obtain ⟨ml, f, ha, hb, hab, hB, hl, hm, hfit, hf, hAd⟩ := T
  have hkl := tsL_len k hk
  refine Ct.of (L := [(0, _), (1, _)]) (by decide) (ble rfl) rfl ?_
  first | refine x_aload_n 1 dJ5_append_cf1ce_0 rfl rfl ?_ | refine x_aload_nN 1 dJ5_append_cf1ce_0 rfl rfl ?_
  refine x_ifnonnull 9 dJ5_append_cf1ce_1 (by decide) ?_
  first | refine x_aload_n 1 dJ5_append_cf1ce_9 rfl rfl ?_ | refine x_aload_nN 1 dJ5_append_cf1ce_9 rfl rfl ?_
  refine x_cV1 (As := []) (ct_J0_length_8abf5 (by assumption)) vJ5_32 rfl (x_recvO (zT_obj (by assumption))) rfl ⟨ble rfl, ble rfl⟩ (ble rfl) dJ5_append_cf1ce_10 rfl ?_
  refine x_istore_n (L' := [(2, _), (0, _), (1, _)]) dJ5_append_cf1ce_13 rfl (ble rfl) rfl ?_
  first | refine x_aload_n 1 dJ5_append_cf1ce_14 rfl rfl ?_ | refine x_aload_nN 1 dJ5_append_cf1ce_14 rfl rfl ?_
  first | refine x_aload_n 1 dJ5_append_cf1ce_15 rfl rfl ?_ | refine x_aload_nN 1 dJ5_append_cf1ce_15 rfl rfl ?_
  refine x_get fJ5_79 rfl dJ5_append_cf1ce_16 (by with_reducible repeat first | assumption | exact hset_s | refine hget_n (by first | assumption | exact Ne.symm (by assumption) | exact nA (by assumption) (by omega) (by omega) (by omega)) ?_) (by rfl) ?_
  refine x_iload_n 0 dJ5_append_cf1ce_19 rfl rfl ?_
  refine x_iadd dJ5_append_cf1ce_20 ?_
  rw [nI_add]
  refine x_qP0 (mc1 := 0) (ms1 := 0) (As := [.int _]) (ct_ensT T0 hA hAll (q := tx.length + tsLen k) (by omega)) qJ5_100 rfl (x_recv (by with_reducible repeat first | assumption | exact hset_s | refine hget_n (by first | assumption | exact Ne.symm (by assumption) | exact nA (by assumption) (by omega) (by omega) (by omega)) ?_) rfl) rfl ⟨ble rfl, ble rfl⟩ (ble rfl) dJ5_append_cf1ce_21 rfl ⟨by omega, by omega⟩ (fun h9 q21 => ?_)
  obtain ⟨b1, m1, ⟨ml1, f1, ha1, hb1, hab1, hB1, hl1, hmm1, hfit1, hf1, hAd1⟩, hq1, hbb, F1⟩ := q21
  first | refine x_aload_n 1 dJ5_append_cf1ce_24 rfl rfl ?_ | refine x_aload_nN 1 dJ5_append_cf1ce_24 rfl rfl ?_
  first | refine x_aload_n 1 dJ5_append_cf1ce_25 rfl rfl ?_ | refine x_aload_nN 1 dJ5_append_cf1ce_25 rfl rfl ?_
  refine x_get fJ5_79 rfl dJ5_append_cf1ce_26 (by with_reducible repeat first | assumption | exact hset_s | refine hget_n (by first | assumption | exact Ne.symm (by assumption) | exact nA (by assumption) (by omega) (by omega) (by omega)) ?_) (by rfl) ?_
  first | refine x_aload_n 2 dJ5_append_cf1ce_29 rfl rfl ?_ | refine x_aload_nN 2 dJ5_append_cf1ce_29 rfl rfl ?_
  refine x_qP0 (mc1 := 0) (ms1 := 0) (As := [.int _, .ref _]) (ct_J5_putStringAt_47b60 hk ha1 hb1 hab1 hA hB1 hmm1 hq1) qJ5_208 rfl (x_recv (by with_reducible repeat first | assumption | exact hset_s | refine hget_n (by first | assumption | exact Ne.symm (by assumption) | exact nA (by assumption) (by omega) (by omega) (by omega)) ?_) rfl) rfl ⟨ble rfl, ble rfl⟩ (ble rfl) dJ5_append_cf1ce_30 rfl ⟨by omega, by omega⟩ (fun h8 q30 => ?_)
  subst q30
  first | refine x_aload_n 1 dJ5_append_cf1ce_33 rfl rfl ?_ | refine x_aload_nN 1 dJ5_append_cf1ce_33 rfl rfl ?_
  refine x_dup dJ5_append_cf1ce_34 rfl ?_
  refine x_get fJ5_79 rfl dJ5_append_cf1ce_35 (by with_reducible repeat first | assumption | exact hset_s | refine hget_n (by first | assumption | exact Ne.symm (by assumption) | exact nA (by assumption) (by omega) (by omega) (by omega)) ?_) (by rfl) ?_
  refine x_iload_n 0 dJ5_append_cf1ce_38 rfl rfl ?_
  refine x_iadd dJ5_append_cf1ce_39 ?_
  rw [nI_add]
  refine x_put fJ5_79 rfl rfl rfl rfl dJ5_append_cf1ce_40 (by with_reducible repeat first | assumption | exact hset_s | refine hget_n (by first | assumption | exact Ne.symm (by assumption) | exact nA (by assumption) (by omega) (by omega) (by omega)) ?_) (by exact ble rfl) (by first | assumption | exact aA (by assumption) (by omega)) ?_
  first | refine x_aload_n 1 dJ5_append_cf1ce_43 rfl rfl ?_ | refine x_aload_nN 1 dJ5_append_cf1ce_43 rfl rfl ?_
  refine x_aret rfl (by first | exact Or.inl ⟨_, rfl⟩ | exact Or.inr ⟨_, rfl⟩) (by first | exact Or.inl rfl | exact Or.inr ⟨_, rfl⟩ | assumption) dJ5_append_cf1ce_44 ?_
  refine ⟨rfl, b1, ⟨m1, ml1, va_cpy (tsC k) f1 0 tx.length (tsLen k), ?_, ?_, hab1, hB1, ?_, hmm1, ?_, ?_, hAd1⟩, hbb, ((F1.sn (by rcases hbb with z | z; exact Or.inl (Or.inr z); exact Or.inr z)).sn (Or.inl (Or.inl rfl)))⟩
  · rw [List.length_append, hkl]; exact hset_s
  · exact hget_n (Ne.symm hab1) hset_s
  · rw [List.length_append, hkl]; exact hq1
  · intro i hi; unfold va_cpy; split
    · rw [Nat.zero_add]; exact (ts_fit k hk _ (by omega)).1
    · exact hfit1 i hi
  · refine app_ok (tsL k) hf1 (fun i hi => by unfold va_cpy; rw [if_neg (by omega)]) (fun j hj => ?_)
    rw [hkl] at hj
    unfold va_cpy
    rw [if_pos (by omega), show 0 + (tx.length + j - tx.length) = j by omega]
    rfl
set_option maxRecDepth 100000 in
set_option maxHeartbeats 4000000 in
theorem ct_sb_s {l : Launch} {G : Gl} {h : Hp} {a b m : Nat} {tx : List Int32} (T : SBTm G h a tx b m) (hA : G.2.2.1 a) (hAll : ∀ i, nmU i → h (Ad G i) ≠ none) {k : Nat} (hk : k < 12) (hl64 : tx.length + tsLen k ≤ 64) : CtP l G mJ4_append_15ec4 6 (1) (130) [.ref a, .ref (G.2.2.2 (20 + k))] h (some (.ref a)) (fun h' => SBP G h a b (tx ++ tsL k) h') := by
  have T0 := T
  obtain ⟨ml, f, ha, hb, hab, hB, hl, hm, hfit, hf, hAd⟩ := T
  refine Ct.of (L := [(0, _), (1, _)]) (by decide) (ble rfl) rfl ?_
  first | refine x_aload_n 0 dJ4_append_15ec4_0 rfl rfl ?_ | refine x_aload_nN 0 dJ4_append_15ec4_0 rfl rfl ?_
  first | refine x_aload_n 1 dJ4_append_15ec4_1 rfl rfl ?_ | refine x_aload_nN 1 dJ4_append_15ec4_1 rfl rfl ?_
  refine x_suP1 (mc1 := 0) (ms1 := 0) (As := [.ref _]) (ct_app_s T0 hA hAll hk hl64) qJ4_29 rfl (x_recv (by with_reducible repeat first | assumption | exact hset_s | refine hget_n (by first | assumption | exact Ne.symm (by assumption) | exact nA (by assumption) (by omega) (by omega) (by omega)) ?_) rfl) rfl ⟨ble rfl, ble rfl⟩ (ble rfl) dJ4_append_15ec4_2 rfl ⟨by omega, by omega⟩ (fun h2 q2 => ?_)
  refine x_pop dJ4_append_15ec4_5 rfl ?_
  first | refine x_aload_n 0 dJ4_append_15ec4_6 rfl rfl ?_ | refine x_aload_nN 0 dJ4_append_15ec4_6 rfl rfl ?_
  refine x_aret rfl (by first | exact Or.inl ⟨_, rfl⟩ | exact Or.inr ⟨_, rfl⟩) (by first | exact Or.inl rfl | exact Or.inr ⟨_, rfl⟩ | assumption) dJ4_append_15ec4_7 ?_
  exact ⟨rfl, q2⟩
set_option maxRecDepth 100000 in
set_option maxHeartbeats 4000000 in
theorem ct_ssz1 {l : Launch} {G : Gl} {h : Hp} {w : Nat} (hw : w < 10) : CtR l G mJ6_stringSize_0f7a4 1 [.int (nI w)] h (some (.int (nI 1))) (h) := by
  obtain ⟨d1, d2, d3, d4, d5, d6, d7, d8, d9⟩ := dg_ok w (by omega)
  refine Ct.of (L := [(0, _)]) (by decide) (ble rfl) rfl ?_
  refine x_iconst (v := 1) dJ6_stringSize_0f7a4_0 rfl ?_
  refine x_istore_n (L' := [(1, _), (0, _)]) dJ6_stringSize_0f7a4_1 rfl (ble rfl) rfl ?_
  refine x_iload_n 1 dJ6_stringSize_0f7a4_2 rfl rfl ?_
  refine x_if_lt 11 dJ6_stringSize_0f7a4_3 (by decide) (fun z => by first | exact absurd z (d1) | exact absurd (d1) z) (fun _ => ?_)
  refine x_iconst (v := 0) dJ6_stringSize_0f7a4_6 rfl ?_
  refine x_istore_n (L' := [(1, _), (0, _)]) dJ6_stringSize_0f7a4_7 rfl (ble rfl) rfl ?_
  refine x_iload_n 1 dJ6_stringSize_0f7a4_8 rfl rfl ?_
  refine x_ineg dJ6_stringSize_0f7a4_9 ?_
  refine x_istore_n (L' := [(0, _), (1, _)]) dJ6_stringSize_0f7a4_10 rfl (ble rfl) rfl ?_
  refine x_bipush (v := -10) dJ6_stringSize_0f7a4_11 rfl ?_
  refine x_istore_n (L' := [(2, _), (0, _), (1, _)]) dJ6_stringSize_0f7a4_13 rfl (ble rfl) rfl ?_
  refine x_iconst (v := 1) dJ6_stringSize_0f7a4_14 rfl ?_
  refine x_istore_n (L' := [(3, _), (2, _), (0, _), (1, _)]) dJ6_stringSize_0f7a4_15 rfl (ble rfl) rfl ?_
  refine x_iload_n 0 dJ6_stringSize_0f7a4_16 rfl rfl ?_
  refine x_bipush (v := 10) dJ6_stringSize_0f7a4_17 rfl ?_
  refine x_icmp_ge 42 dJ6_stringSize_0f7a4_19 (by decide) (fun z => by first | exact absurd z (by decide) | exact absurd (by decide) z) (fun _ => ?_)
  refine x_iload_n 2 dJ6_stringSize_0f7a4_22 rfl rfl ?_
  refine x_iload_n 1 dJ6_stringSize_0f7a4_23 rfl rfl ?_
  refine x_icmp_le 31 dJ6_stringSize_0f7a4_24 (by decide) (fun z => by first | exact absurd z (Int32.not_le.mpr (d4 hw).2) | exact absurd (Int32.not_le.mpr (d4 hw).2) z) (fun _ => ?_)
  refine x_iload_n 0 dJ6_stringSize_0f7a4_27 rfl rfl ?_
  refine x_iload_n 3 dJ6_stringSize_0f7a4_28 rfl rfl ?_
  refine x_iadd dJ6_stringSize_0f7a4_29 ?_
  refine x_iret rfl dJ6_stringSize_0f7a4_30 ?_
  exact ⟨rfl, rfl⟩
set_option maxRecDepth 100000 in
set_option maxHeartbeats 4000000 in
theorem ct_ssz2 {l : Launch} {G : Gl} {h : Hp} {w : Nat} (hw : w < 100) (h10 : 10 ≤ w) : CtR l G mJ6_stringSize_0f7a4 1 [.int (nI w)] h (some (.int (nI 2))) (h) := by
  obtain ⟨d1, d2, d3, d4, d5, d6, d7, d8, d9⟩ := dg_ok w (by omega)
  refine Ct.of (L := [(0, _)]) (by decide) (ble rfl) rfl ?_
  refine x_iconst (v := 1) dJ6_stringSize_0f7a4_0 rfl ?_
  refine x_istore_n (L' := [(1, _), (0, _)]) dJ6_stringSize_0f7a4_1 rfl (ble rfl) rfl ?_
  refine x_iload_n 1 dJ6_stringSize_0f7a4_2 rfl rfl ?_
  refine x_if_lt 11 dJ6_stringSize_0f7a4_3 (by decide) (fun z => by first | exact absurd z (d1) | exact absurd (d1) z) (fun _ => ?_)
  refine x_iconst (v := 0) dJ6_stringSize_0f7a4_6 rfl ?_
  refine x_istore_n (L' := [(1, _), (0, _)]) dJ6_stringSize_0f7a4_7 rfl (ble rfl) rfl ?_
  refine x_iload_n 1 dJ6_stringSize_0f7a4_8 rfl rfl ?_
  refine x_ineg dJ6_stringSize_0f7a4_9 ?_
  refine x_istore_n (L' := [(0, _), (1, _)]) dJ6_stringSize_0f7a4_10 rfl (ble rfl) rfl ?_
  refine x_bipush (v := -10) dJ6_stringSize_0f7a4_11 rfl ?_
  refine x_istore_n (L' := [(2, _), (0, _), (1, _)]) dJ6_stringSize_0f7a4_13 rfl (ble rfl) rfl ?_
  refine x_iconst (v := 1) dJ6_stringSize_0f7a4_14 rfl ?_
  refine x_istore_n (L' := [(3, _), (2, _), (0, _), (1, _)]) dJ6_stringSize_0f7a4_15 rfl (ble rfl) rfl ?_
  refine x_iload_n 0 dJ6_stringSize_0f7a4_16 rfl rfl ?_
  refine x_bipush (v := 10) dJ6_stringSize_0f7a4_17 rfl ?_
  refine x_icmp_ge 42 dJ6_stringSize_0f7a4_19 (by decide) (fun z => by first | exact absurd z (by decide) | exact absurd (by decide) z) (fun _ => ?_)
  refine x_iload_n 2 dJ6_stringSize_0f7a4_22 rfl rfl ?_
  refine x_iload_n 1 dJ6_stringSize_0f7a4_23 rfl rfl ?_
  refine x_icmp_le 31 dJ6_stringSize_0f7a4_24 (by decide) (fun _ => ?_) (fun z => by first | exact absurd (Int32.not_lt.mp (d5 h10).2) z | exact absurd z (Int32.not_lt.mp (d5 h10).2))
  refine x_bipush (v := 10) dJ6_stringSize_0f7a4_31 rfl ?_
  refine x_iload_n 1 dJ6_stringSize_0f7a4_33 rfl rfl ?_
  refine x_imul dJ6_stringSize_0f7a4_34 ?_
  refine x_istore_n (L' := [(2, _), (3, _), (0, _), (1, _)]) dJ6_stringSize_0f7a4_35 rfl (ble rfl) rfl ?_
  refine x_iinc (L' := [(3, _), (2, _), (0, _), (1, _)]) (j := 1) (_ + 1) dJ6_stringSize_0f7a4_36 rfl rfl (ble rfl) rfl ?_
  refine x_goto 16 dJ6_stringSize_0f7a4_39 (by decide) ?_
  refine x_iload_n 0 dJ6_stringSize_0f7a4_16 rfl rfl ?_
  refine x_bipush (v := 10) dJ6_stringSize_0f7a4_17 rfl ?_
  refine x_icmp_ge 42 dJ6_stringSize_0f7a4_19 (by decide) (fun z => by first | exact absurd z (by decide) | exact absurd (by decide) z) (fun _ => ?_)
  refine x_iload_n 2 dJ6_stringSize_0f7a4_22 rfl rfl ?_
  refine x_iload_n 1 dJ6_stringSize_0f7a4_23 rfl rfl ?_
  refine x_icmp_le 31 dJ6_stringSize_0f7a4_24 (by decide) (fun z => by first | exact absurd z (Int32.not_le.mpr d2) | exact absurd (Int32.not_le.mpr d2) z) (fun _ => ?_)
  refine x_iload_n 0 dJ6_stringSize_0f7a4_27 rfl rfl ?_
  refine x_iload_n 3 dJ6_stringSize_0f7a4_28 rfl rfl ?_
  refine x_iadd dJ6_stringSize_0f7a4_29 ?_
  refine x_iret rfl dJ6_stringSize_0f7a4_30 ?_
  exact ⟨rfl, rfl⟩
set_option maxRecDepth 100000 in
set_option maxHeartbeats 4000000 in
theorem ct_gc1 {l : Launch} {G : Gl} {h : Hp} {b m p : Nat} {f : Nat → Int32} {w : Nat} (hw : w < 10) (hb : h b = some (eB G m f)) (hB : G.2.2.1 b) (hp : 1 ≤ p) (hpm : p ≤ m) (hm : m ≤ 130) : CtP l G mJ6_getChars_ba4f3 1 (0) (0) [.int (nI w), .int (nI p), .ref b] h (some (.int (nI (p - 1)))) (fun h' => h' = hset h b (eB G m (upd f (p - 1) (nI (48 + w % 10))))) := by
  obtain ⟨d1, d2, d3, d4, d5, d6, d7, d8, d9⟩ := dg_ok w (by omega)
  refine Ct.of (L := [(0, _), (1, _), (2, _)]) (by decide) (ble rfl) rfl ?_
  refine x_iload_n 1 dJ6_getChars_ba4f3_0 rfl rfl ?_
  refine x_istore (L' := [(5, _), (0, _), (1, _), (2, _)]) dJ6_getChars_ba4f3_1 (ble rfl) rfl ?_
  refine x_iload_n 1 dJ6_getChars_ba4f3_3 rfl rfl ?_
  refine x_if_ge 11 dJ6_getChars_ba4f3_4 (by decide) (fun _ => ?_) (fun z => by first | exact absurd (Int32.not_lt.mp d1) z | exact absurd z (Int32.not_lt.mp d1))
  refine x_iconst (v := 0) dJ6_getChars_ba4f3_11 rfl ?_
  refine x_istore (L' := [(6, _), (5, _), (0, _), (1, _), (2, _)]) dJ6_getChars_ba4f3_12 (ble rfl) rfl ?_
  refine x_iload 0 dJ6_getChars_ba4f3_14 rfl ?_
  refine x_if_ne 22 dJ6_getChars_ba4f3_16 (by decide) (fun z => by first | exact absurd z (rfl) | exact absurd (rfl) z) (fun _ => ?_)
  refine x_iload_n 2 dJ6_getChars_ba4f3_19 rfl rfl ?_
  refine x_ineg dJ6_getChars_ba4f3_20 ?_
  refine x_istore_n (L' := [(0, _), (6, _), (5, _), (1, _), (2, _)]) dJ6_getChars_ba4f3_21 rfl (ble rfl) rfl ?_
  refine x_iload_n 0 dJ6_getChars_ba4f3_22 rfl rfl ?_
  refine x_bipush (v := -100) dJ6_getChars_ba4f3_23 rfl ?_
  refine x_icmp_gt 72 dJ6_getChars_ba4f3_25 (by decide) (fun _ => ?_) (fun z => by first | exact absurd (d2) z | exact absurd z (d2))
  first | refine x_aload_n 4 dJ6_getChars_ba4f3_72 rfl rfl ?_ | refine x_aload_nN 4 dJ6_getChars_ba4f3_72 rfl rfl ?_
  refine x_iinc (L' := [(5, _), (0, _), (6, _), (1, _), (2, _)]) (j := 2) (_ + (-1)) dJ6_getChars_ba4f3_73 rfl rfl (ble rfl) rfl ?_
  rw [nI_m1 (by omega)]
  refine x_iload 0 dJ6_getChars_ba4f3_76 rfl ?_
  refine x_gets zDO rfl oJ6_83 dJ6_getChars_ba4f3_78 ?_
  refine x_iload_n 1 dJ6_getChars_ba4f3_81 rfl rfl ?_
  refine x_ineg dJ6_getChars_ba4f3_82 ?_
  rw [d3]
  refine x_tbld zDOt (vp_in_nI (by omega) (by omega)) dJ6_getChars_ba4f3_83 ?_
  refine x_bast dJ6_getChars_ba4f3_84 (by with_reducible repeat first | assumption | exact hset_s | refine hget_n (by first | assumption | exact Ne.symm (by assumption) | exact nA (by assumption) (by omega) (by omega) (by omega)) ?_) (by exact vp_in_nI (by omega) (by omega)) (by first | assumption | exact aA (by assumption) (by omega)) ?_
  refine x_iload_n 1 dJ6_getChars_ba4f3_85 rfl rfl ?_
  refine x_bipush (v := -9) dJ6_getChars_ba4f3_86 rfl ?_
  refine x_icmp_ge 104 dJ6_getChars_ba4f3_88 (by decide) (fun _ => ?_) (fun z => by first | exact absurd ((d4 hw).1) z | exact absurd z ((d4 hw).1))
  refine x_iload 2 dJ6_getChars_ba4f3_104 rfl ?_
  refine x_if_eq 118 dJ6_getChars_ba4f3_106 (by decide) (fun _ => ?_) (fun z => by first | exact absurd (rfl) z | exact absurd z (rfl))
  refine x_iload 0 dJ6_getChars_ba4f3_118 rfl ?_
  refine x_iret rfl dJ6_getChars_ba4f3_120 ?_
  exact ⟨rfl, by rw [nI_clamp (by omega), nI_clamp (by omega), d6, d8]⟩
set_option maxRecDepth 100000 in
set_option maxHeartbeats 4000000 in
theorem ct_gc2 {l : Launch} {G : Gl} {h : Hp} {b m p : Nat} {f : Nat → Int32} {w : Nat} (hw : w < 100) (h10 : 10 ≤ w) (hb : h b = some (eB G m f)) (hB : G.2.2.1 b) (hp : 2 ≤ p) (hpm : p ≤ m) (hm : m ≤ 130) : CtP l G mJ6_getChars_ba4f3 1 (0) (0) [.int (nI w), .int (nI p), .ref b] h (some (.int (nI (p - 2)))) (fun h' => h' = hset h b (eB G m (upd (upd f (p - 1) (nI (48 + w % 10))) (p - 2) (nI (48 + w / 10))))) := by
  obtain ⟨d1, d2, d3, d4, d5, d6, d7, d8, d9⟩ := dg_ok w (by omega)
  refine Ct.of (L := [(0, _), (1, _), (2, _)]) (by decide) (ble rfl) rfl ?_
  refine x_iload_n 1 dJ6_getChars_ba4f3_0 rfl rfl ?_
  refine x_istore (L' := [(5, _), (0, _), (1, _), (2, _)]) dJ6_getChars_ba4f3_1 (ble rfl) rfl ?_
  refine x_iload_n 1 dJ6_getChars_ba4f3_3 rfl rfl ?_
  refine x_if_ge 11 dJ6_getChars_ba4f3_4 (by decide) (fun _ => ?_) (fun z => by first | exact absurd (Int32.not_lt.mp d1) z | exact absurd z (Int32.not_lt.mp d1))
  refine x_iconst (v := 0) dJ6_getChars_ba4f3_11 rfl ?_
  refine x_istore (L' := [(6, _), (5, _), (0, _), (1, _), (2, _)]) dJ6_getChars_ba4f3_12 (ble rfl) rfl ?_
  refine x_iload 0 dJ6_getChars_ba4f3_14 rfl ?_
  refine x_if_ne 22 dJ6_getChars_ba4f3_16 (by decide) (fun z => by first | exact absurd z (rfl) | exact absurd (rfl) z) (fun _ => ?_)
  refine x_iload_n 2 dJ6_getChars_ba4f3_19 rfl rfl ?_
  refine x_ineg dJ6_getChars_ba4f3_20 ?_
  refine x_istore_n (L' := [(0, _), (6, _), (5, _), (1, _), (2, _)]) dJ6_getChars_ba4f3_21 rfl (ble rfl) rfl ?_
  refine x_iload_n 0 dJ6_getChars_ba4f3_22 rfl rfl ?_
  refine x_bipush (v := -100) dJ6_getChars_ba4f3_23 rfl ?_
  refine x_icmp_gt 72 dJ6_getChars_ba4f3_25 (by decide) (fun _ => ?_) (fun z => by first | exact absurd (d2) z | exact absurd z (d2))
  first | refine x_aload_n 4 dJ6_getChars_ba4f3_72 rfl rfl ?_ | refine x_aload_nN 4 dJ6_getChars_ba4f3_72 rfl rfl ?_
  refine x_iinc (L' := [(5, _), (0, _), (6, _), (1, _), (2, _)]) (j := 2) (_ + (-1)) dJ6_getChars_ba4f3_73 rfl rfl (ble rfl) rfl ?_
  rw [nI_m1 (by omega)]
  refine x_iload 0 dJ6_getChars_ba4f3_76 rfl ?_
  refine x_gets zDO rfl oJ6_83 dJ6_getChars_ba4f3_78 ?_
  refine x_iload_n 1 dJ6_getChars_ba4f3_81 rfl rfl ?_
  refine x_ineg dJ6_getChars_ba4f3_82 ?_
  rw [d3]
  refine x_tbld zDOt (vp_in_nI (by omega) (by omega)) dJ6_getChars_ba4f3_83 ?_
  refine x_bast dJ6_getChars_ba4f3_84 (by with_reducible repeat first | assumption | exact hset_s | refine hget_n (by first | assumption | exact Ne.symm (by assumption) | exact nA (by assumption) (by omega) (by omega) (by omega)) ?_) (by exact vp_in_nI (by omega) (by omega)) (by first | assumption | exact aA (by assumption) (by omega)) ?_
  refine x_iload_n 1 dJ6_getChars_ba4f3_85 rfl rfl ?_
  refine x_bipush (v := -9) dJ6_getChars_ba4f3_86 rfl ?_
  refine x_icmp_ge 104 dJ6_getChars_ba4f3_88 (by decide) (fun z => by first | exact absurd z ((d5 h10).1) | exact absurd ((d5 h10).1) z) (fun _ => ?_)
  first | refine x_aload_n 4 dJ6_getChars_ba4f3_91 rfl rfl ?_ | refine x_aload_nN 4 dJ6_getChars_ba4f3_91 rfl rfl ?_
  refine x_iinc (L' := [(5, _), (0, _), (6, _), (1, _), (2, _)]) (j := 0) (_ + (-1)) dJ6_getChars_ba4f3_92 rfl rfl (ble rfl) rfl ?_
  rw [nI_m1 (by omega), show p - 1 - 1 = p - 2 by omega]
  refine x_iload 0 dJ6_getChars_ba4f3_95 rfl ?_
  refine x_gets zDT rfl oJ6_87 dJ6_getChars_ba4f3_97 ?_
  refine x_iload_n 1 dJ6_getChars_ba4f3_100 rfl rfl ?_
  refine x_ineg dJ6_getChars_ba4f3_101 ?_
  rw [d3]
  refine x_tbld zDTt (vp_in_nI (by omega) (by omega)) dJ6_getChars_ba4f3_102 ?_
  refine x_bast dJ6_getChars_ba4f3_103 (by with_reducible repeat first | assumption | exact hset_s | refine hget_n (by first | assumption | exact Ne.symm (by assumption) | exact nA (by assumption) (by omega) (by omega) (by omega)) ?_) (by exact vp_in_nI (by omega) (by omega)) (by first | assumption | exact aA (by assumption) (by omega)) ?_
  refine x_iload 2 dJ6_getChars_ba4f3_104 rfl ?_
  refine x_if_eq 118 dJ6_getChars_ba4f3_106 (by decide) (fun _ => ?_) (fun z => by first | exact absurd (rfl) z | exact absurd z (rfl))
  refine x_iload 0 dJ6_getChars_ba4f3_118 rfl ?_
  refine x_iret rfl dJ6_getChars_ba4f3_120 ?_
  refine ⟨rfl, ?_⟩
  rw [hset_2, nI_clamp (show w < 2 ^ 31 by omega), nI_clamp (show p - 1 < 2 ^ 31 by omega), nI_clamp (show p - 2 < 2 ^ 31 by omega), d6, d7, d8, d9]
theorem dgs_len (w : Nat) : (dgs w).length = if w < 10 then 1 else 2 := by unfold dgs; split <;> rfl
set_option maxRecDepth 100000 in
set_option maxHeartbeats 4000000 in
theorem ct_app_i1 {l : Launch} {G : Gl} {h : Hp} {a b m : Nat} {tx : List Int32} (T : SBTm G h a tx b m) (hA : G.2.2.1 a) (hAll : ∀ i, nmU i → h (Ad G i) ≠ none) {w : Nat} (hw : w < 10) (hl64 : tx.length + 1 ≤ 64) : CtP l G mJ5_append_c97b9 4 (1) (130) [.ref a, .int (nI w)] h (some (.ref a)) (fun h' => SBP G h a b (tx ++ dgs w) h') := by
  have T0 := T
  obtain ⟨d1, d2, d3, d4, d5, d6, d7, d8, d9⟩ := dg_ok w (by omega)
  obtain ⟨ml, f, ha, hb, hab, hB, hl, hm, hfit, hf, hAd⟩ := T
  have hdl : (dgs w).length = 1 := by rw [dgs_len]; first | exact if_pos (by omega) | exact if_neg (by omega)
  refine Ct.of (L := [(0, _), (1, _)]) (by decide) (ble rfl) rfl ?_
  first | refine x_aload_n 0 dJ5_append_c97b9_0 rfl rfl ?_ | refine x_aload_nN 0 dJ5_append_c97b9_0 rfl rfl ?_
  refine x_get fJ5_79 rfl dJ5_append_c97b9_1 (by with_reducible repeat first | assumption | exact hset_s | refine hget_n (by first | assumption | exact Ne.symm (by assumption) | exact nA (by assumption) (by omega) (by omega) (by omega)) ?_) (by rfl) ?_
  refine x_istore_n (L' := [(2, _), (0, _), (1, _)]) dJ5_append_c97b9_4 rfl (ble rfl) rfl ?_
  refine x_iload_n 0 dJ5_append_c97b9_5 rfl rfl ?_
  refine x_iload_n 2 dJ5_append_c97b9_6 rfl rfl ?_
  refine x_cS1 (As := [.int _]) (ct_ssz1 hw) vJ5_245 rfl rfl ⟨ble rfl, ble rfl⟩ (ble rfl) dJ5_append_c97b9_7 rfl ?_
  refine x_iadd dJ5_append_c97b9_10 ?_
  rw [nI_add]
  refine x_istore_n (L' := [(3, _), (2, _), (0, _), (1, _)]) dJ5_append_c97b9_11 rfl (ble rfl) rfl ?_
  first | refine x_aload_n 2 dJ5_append_c97b9_12 rfl rfl ?_ | refine x_aload_nN 2 dJ5_append_c97b9_12 rfl rfl ?_
  refine x_iload_n 0 dJ5_append_c97b9_13 rfl rfl ?_
  refine x_qP0 (mc1 := 0) (ms1 := 0) (As := [.int _]) (ct_ensT T0 hA hAll (q := tx.length + 1) (by omega)) qJ5_100 rfl (x_recv (by with_reducible repeat first | assumption | exact hset_s | refine hget_n (by first | assumption | exact Ne.symm (by assumption) | exact nA (by assumption) (by omega) (by omega) (by omega)) ?_) rfl) rfl ⟨ble rfl, ble rfl⟩ (ble rfl) dJ5_append_c97b9_14 rfl ⟨by omega, by omega⟩ (fun h9 q14 => ?_)
  obtain ⟨b1, m1, ⟨ml1, f1, ha1, hb1, hab1, hB1, hl1, hmm1, hfit1, hf1, hAd1⟩, hq1, hbb, F1⟩ := q14
  first | refine x_aload_n 2 dJ5_append_c97b9_17 rfl rfl ?_ | refine x_aload_nN 2 dJ5_append_c97b9_17 rfl rfl ?_
  refine x_qR1 (As := []) (ct_J5_isLatin1_aae02 (by with_reducible repeat first | assumption | exact hset_s | refine hget_n (by first | assumption | exact Ne.symm (by assumption) | exact nA (by assumption) (by omega) (by omega) (by omega)) ?_)) qJ5_83 rfl (x_recv (by with_reducible repeat first | assumption | exact hset_s | refine hget_n (by first | assumption | exact Ne.symm (by assumption) | exact nA (by assumption) (by omega) (by omega) (by omega)) ?_) rfl) rfl ⟨ble rfl, ble rfl⟩ (ble rfl) dJ5_append_c97b9_18 rfl ?_
  refine x_if_eq 37 dJ5_append_c97b9_21 (by decide) (fun z => by first | exact absurd z (by decide) | exact absurd (by decide) z) (fun _ => ?_)
  refine x_iload_n 3 dJ5_append_c97b9_24 rfl rfl ?_
  refine x_iload_n 0 dJ5_append_c97b9_25 rfl rfl ?_
  first | refine x_aload_n 2 dJ5_append_c97b9_26 rfl rfl ?_ | refine x_aload_nN 2 dJ5_append_c97b9_26 rfl rfl ?_
  refine x_get fJ5_15 rfl dJ5_append_c97b9_27 (by with_reducible repeat first | assumption | exact hset_s | refine hget_n (by first | assumption | exact Ne.symm (by assumption) | exact nA (by assumption) (by omega) (by omega) (by omega)) ?_) (by rfl) ?_
  refine x_pS1 (mc1 := 0) (ms1 := 0) (As := [.int _, .int _, .ref _]) (ct_gc1 hw hb1 hB1 (by omega) hq1 hmm1) vJ5_248 rfl rfl ⟨ble rfl, ble rfl⟩ (ble rfl) dJ5_append_c97b9_30 rfl ⟨by omega, by omega⟩ (fun h8 q30 => ?_)
  subst q30
  refine x_pop dJ5_append_c97b9_33 rfl ?_
  refine x_goto 48 dJ5_append_c97b9_34 (by decide) ?_
  first | refine x_aload_n 2 dJ5_append_c97b9_48 rfl rfl ?_ | refine x_aload_nN 2 dJ5_append_c97b9_48 rfl rfl ?_
  refine x_iload_n 0 dJ5_append_c97b9_49 rfl rfl ?_
  refine x_put fJ5_79 rfl rfl rfl rfl dJ5_append_c97b9_50 (by with_reducible repeat first | assumption | exact hset_s | refine hget_n (by first | assumption | exact Ne.symm (by assumption) | exact nA (by assumption) (by omega) (by omega) (by omega)) ?_) (by exact ble rfl) (by first | assumption | exact aA (by assumption) (by omega)) ?_
  first | refine x_aload_n 2 dJ5_append_c97b9_53 rfl rfl ?_ | refine x_aload_nN 2 dJ5_append_c97b9_53 rfl rfl ?_
  refine x_aret rfl (by first | exact Or.inl ⟨_, rfl⟩ | exact Or.inr ⟨_, rfl⟩) (by first | exact Or.inl rfl | exact Or.inr ⟨_, rfl⟩ | assumption) dJ5_append_c97b9_54 ?_
  refine ⟨rfl, b1, ⟨m1, ml1, upd f1 (tx.length + 1 - 1) (nI (48 + w % 10)), ?_, ?_, hab1, hB1, ?_, hmm1, ?_, ?_, hAd1⟩, hbb, ((F1.sn (by rcases hbb with z | z; exact Or.inl (Or.inr z); exact Or.inr z)).sn (Or.inl (Or.inl rfl)))⟩
  · rw [List.length_append, hdl]; exact hset_s
  · exact hget_n (Ne.symm hab1) hset_s
  · rw [List.length_append, hdl]; exact hq1
  · intro i hi; unfold upd; (repeat' split) <;> first | exact hfit1 i hi | (have := fit_i8 (nI (48 + w % 10)); rw [d8] at this; exact this) | (have := fit_i8 (nI (48 + w / 10)); rw [d9] at this; exact this)
  · refine app_ok (dgs w) hf1 (fun i hi => by unfold upd; (repeat' split) <;> first | rfl | omega) (fun j hj => ?_)
    rw [hdl] at hj
    unfold dgs
    rw [if_pos hw]; obtain rfl : j = 0 := by omega
    all_goals (unfold upd; (repeat' split) <;> first | rfl | omega | (rw [Nat.mod_eq_of_lt (by omega)]; rfl))
set_option maxRecDepth 100000 in
set_option maxHeartbeats 4000000 in
theorem ct_app_i2 {l : Launch} {G : Gl} {h : Hp} {a b m : Nat} {tx : List Int32} (T : SBTm G h a tx b m) (hA : G.2.2.1 a) (hAll : ∀ i, nmU i → h (Ad G i) ≠ none) {w : Nat} (hw : w < 100) (h10 : 10 ≤ w) (hl64 : tx.length + 2 ≤ 64) : CtP l G mJ5_append_c97b9 4 (1) (130) [.ref a, .int (nI w)] h (some (.ref a)) (fun h' => SBP G h a b (tx ++ dgs w) h') := by
  have T0 := T
  obtain ⟨d1, d2, d3, d4, d5, d6, d7, d8, d9⟩ := dg_ok w (by omega)
  obtain ⟨ml, f, ha, hb, hab, hB, hl, hm, hfit, hf, hAd⟩ := T
  have hdl : (dgs w).length = 2 := by rw [dgs_len]; first | exact if_pos (by omega) | exact if_neg (by omega)
  refine Ct.of (L := [(0, _), (1, _)]) (by decide) (ble rfl) rfl ?_
  first | refine x_aload_n 0 dJ5_append_c97b9_0 rfl rfl ?_ | refine x_aload_nN 0 dJ5_append_c97b9_0 rfl rfl ?_
  refine x_get fJ5_79 rfl dJ5_append_c97b9_1 (by with_reducible repeat first | assumption | exact hset_s | refine hget_n (by first | assumption | exact Ne.symm (by assumption) | exact nA (by assumption) (by omega) (by omega) (by omega)) ?_) (by rfl) ?_
  refine x_istore_n (L' := [(2, _), (0, _), (1, _)]) dJ5_append_c97b9_4 rfl (ble rfl) rfl ?_
  refine x_iload_n 0 dJ5_append_c97b9_5 rfl rfl ?_
  refine x_iload_n 2 dJ5_append_c97b9_6 rfl rfl ?_
  refine x_cS1 (As := [.int _]) (ct_ssz2 hw h10) vJ5_245 rfl rfl ⟨ble rfl, ble rfl⟩ (ble rfl) dJ5_append_c97b9_7 rfl ?_
  refine x_iadd dJ5_append_c97b9_10 ?_
  rw [nI_add]
  refine x_istore_n (L' := [(3, _), (2, _), (0, _), (1, _)]) dJ5_append_c97b9_11 rfl (ble rfl) rfl ?_
  first | refine x_aload_n 2 dJ5_append_c97b9_12 rfl rfl ?_ | refine x_aload_nN 2 dJ5_append_c97b9_12 rfl rfl ?_
  refine x_iload_n 0 dJ5_append_c97b9_13 rfl rfl ?_
  refine x_qP0 (mc1 := 0) (ms1 := 0) (As := [.int _]) (ct_ensT T0 hA hAll (q := tx.length + 2) (by omega)) qJ5_100 rfl (x_recv (by with_reducible repeat first | assumption | exact hset_s | refine hget_n (by first | assumption | exact Ne.symm (by assumption) | exact nA (by assumption) (by omega) (by omega) (by omega)) ?_) rfl) rfl ⟨ble rfl, ble rfl⟩ (ble rfl) dJ5_append_c97b9_14 rfl ⟨by omega, by omega⟩ (fun h9 q14 => ?_)
  obtain ⟨b1, m1, ⟨ml1, f1, ha1, hb1, hab1, hB1, hl1, hmm1, hfit1, hf1, hAd1⟩, hq1, hbb, F1⟩ := q14
  first | refine x_aload_n 2 dJ5_append_c97b9_17 rfl rfl ?_ | refine x_aload_nN 2 dJ5_append_c97b9_17 rfl rfl ?_
  refine x_qR1 (As := []) (ct_J5_isLatin1_aae02 (by with_reducible repeat first | assumption | exact hset_s | refine hget_n (by first | assumption | exact Ne.symm (by assumption) | exact nA (by assumption) (by omega) (by omega) (by omega)) ?_)) qJ5_83 rfl (x_recv (by with_reducible repeat first | assumption | exact hset_s | refine hget_n (by first | assumption | exact Ne.symm (by assumption) | exact nA (by assumption) (by omega) (by omega) (by omega)) ?_) rfl) rfl ⟨ble rfl, ble rfl⟩ (ble rfl) dJ5_append_c97b9_18 rfl ?_
  refine x_if_eq 37 dJ5_append_c97b9_21 (by decide) (fun z => by first | exact absurd z (by decide) | exact absurd (by decide) z) (fun _ => ?_)
  refine x_iload_n 3 dJ5_append_c97b9_24 rfl rfl ?_
  refine x_iload_n 0 dJ5_append_c97b9_25 rfl rfl ?_
  first | refine x_aload_n 2 dJ5_append_c97b9_26 rfl rfl ?_ | refine x_aload_nN 2 dJ5_append_c97b9_26 rfl rfl ?_
  refine x_get fJ5_15 rfl dJ5_append_c97b9_27 (by with_reducible repeat first | assumption | exact hset_s | refine hget_n (by first | assumption | exact Ne.symm (by assumption) | exact nA (by assumption) (by omega) (by omega) (by omega)) ?_) (by rfl) ?_
  refine x_pS1 (mc1 := 0) (ms1 := 0) (As := [.int _, .int _, .ref _]) (ct_gc2 hw h10 hb1 hB1 (by omega) hq1 hmm1) vJ5_248 rfl rfl ⟨ble rfl, ble rfl⟩ (ble rfl) dJ5_append_c97b9_30 rfl ⟨by omega, by omega⟩ (fun h8 q30 => ?_)
  subst q30
  refine x_pop dJ5_append_c97b9_33 rfl ?_
  refine x_goto 48 dJ5_append_c97b9_34 (by decide) ?_
  first | refine x_aload_n 2 dJ5_append_c97b9_48 rfl rfl ?_ | refine x_aload_nN 2 dJ5_append_c97b9_48 rfl rfl ?_
  refine x_iload_n 0 dJ5_append_c97b9_49 rfl rfl ?_
  refine x_put fJ5_79 rfl rfl rfl rfl dJ5_append_c97b9_50 (by with_reducible repeat first | assumption | exact hset_s | refine hget_n (by first | assumption | exact Ne.symm (by assumption) | exact nA (by assumption) (by omega) (by omega) (by omega)) ?_) (by exact ble rfl) (by first | assumption | exact aA (by assumption) (by omega)) ?_
  first | refine x_aload_n 2 dJ5_append_c97b9_53 rfl rfl ?_ | refine x_aload_nN 2 dJ5_append_c97b9_53 rfl rfl ?_
  refine x_aret rfl (by first | exact Or.inl ⟨_, rfl⟩ | exact Or.inr ⟨_, rfl⟩) (by first | exact Or.inl rfl | exact Or.inr ⟨_, rfl⟩ | assumption) dJ5_append_c97b9_54 ?_
  refine ⟨rfl, b1, ⟨m1, ml1, upd (upd f1 (tx.length + 2 - 1) (nI (48 + w % 10))) (tx.length + 2 - 2) (nI (48 + w / 10)), ?_, ?_, hab1, hB1, ?_, hmm1, ?_, ?_, hAd1⟩, hbb, ((F1.sn (by rcases hbb with z | z; exact Or.inl (Or.inr z); exact Or.inr z)).sn (Or.inl (Or.inl rfl)))⟩
  · rw [List.length_append, hdl]; exact hset_s
  · exact hget_n (Ne.symm hab1) hset_s
  · rw [List.length_append, hdl]; exact hq1
  · intro i hi; unfold upd; (repeat' split) <;> first | exact hfit1 i hi | (have := fit_i8 (nI (48 + w % 10)); rw [d8] at this; exact this) | (have := fit_i8 (nI (48 + w / 10)); rw [d9] at this; exact this)
  · refine app_ok (dgs w) hf1 (fun i hi => by unfold upd; (repeat' split) <;> first | rfl | omega) (fun j hj => ?_)
    rw [hdl] at hj
    unfold dgs
    rw [if_neg (by omega)]; rcases (show j = 0 ∨ j = 1 by omega) with rfl | rfl
    all_goals (unfold upd; (repeat' split) <;> first | rfl | omega | (rw [Nat.mod_eq_of_lt (by omega)]; rfl))
set_option maxRecDepth 100000 in
set_option maxHeartbeats 4000000 in
theorem ct_sb_i1 {l : Launch} {G : Gl} {h : Hp} {a b m : Nat} {tx : List Int32} (T : SBTm G h a tx b m) (hA : G.2.2.1 a) (hAll : ∀ i, nmU i → h (Ad G i) ≠ none) {w : Nat} (hw : w < 10) (hl64 : tx.length + 1 ≤ 64) : CtP l G mJ4_append_bf812 5 (1) (130) [.ref a, .int (nI w)] h (some (.ref a)) (fun h' => SBP G h a b (tx ++ dgs w) h') := by
  have T0 := T
  obtain ⟨ml, f, ha, hb, hab, hB, hl, hm, hfit, hf, hAd⟩ := T
  refine Ct.of (L := [(0, _), (1, _)]) (by decide) (ble rfl) rfl ?_
  first | refine x_aload_n 0 dJ4_append_bf812_0 rfl rfl ?_ | refine x_aload_nN 0 dJ4_append_bf812_0 rfl rfl ?_
  refine x_iload_n 1 dJ4_append_bf812_1 rfl rfl ?_
  refine x_suP1 (mc1 := 0) (ms1 := 0) (As := [.int _]) (ct_app_i1 T0 hA hAll hw hl64) qJ4_53 rfl (x_recv (by with_reducible repeat first | assumption | exact hset_s | refine hget_n (by first | assumption | exact Ne.symm (by assumption) | exact nA (by assumption) (by omega) (by omega) (by omega)) ?_) rfl) rfl ⟨ble rfl, ble rfl⟩ (ble rfl) dJ4_append_bf812_2 rfl ⟨by omega, by omega⟩ (fun h2 q2 => ?_)
  refine x_pop dJ4_append_bf812_5 rfl ?_
  first | refine x_aload_n 0 dJ4_append_bf812_6 rfl rfl ?_ | refine x_aload_nN 0 dJ4_append_bf812_6 rfl rfl ?_
  refine x_aret rfl (by first | exact Or.inl ⟨_, rfl⟩ | exact Or.inr ⟨_, rfl⟩) (by first | exact Or.inl rfl | exact Or.inr ⟨_, rfl⟩ | assumption) dJ4_append_bf812_7 ?_
  exact ⟨rfl, q2⟩
set_option maxRecDepth 100000 in
set_option maxHeartbeats 4000000 in
theorem ct_sb_i2 {l : Launch} {G : Gl} {h : Hp} {a b m : Nat} {tx : List Int32} (T : SBTm G h a tx b m) (hA : G.2.2.1 a) (hAll : ∀ i, nmU i → h (Ad G i) ≠ none) {w : Nat} (hw : w < 100) (h10 : 10 ≤ w) (hl64 : tx.length + 2 ≤ 64) : CtP l G mJ4_append_bf812 5 (1) (130) [.ref a, .int (nI w)] h (some (.ref a)) (fun h' => SBP G h a b (tx ++ dgs w) h') := by
  have T0 := T
  obtain ⟨ml, f, ha, hb, hab, hB, hl, hm, hfit, hf, hAd⟩ := T
  refine Ct.of (L := [(0, _), (1, _)]) (by decide) (ble rfl) rfl ?_
  first | refine x_aload_n 0 dJ4_append_bf812_0 rfl rfl ?_ | refine x_aload_nN 0 dJ4_append_bf812_0 rfl rfl ?_
  refine x_iload_n 1 dJ4_append_bf812_1 rfl rfl ?_
  refine x_suP1 (mc1 := 0) (ms1 := 0) (As := [.int _]) (ct_app_i2 T0 hA hAll hw h10 hl64) qJ4_53 rfl (x_recv (by with_reducible repeat first | assumption | exact hset_s | refine hget_n (by first | assumption | exact Ne.symm (by assumption) | exact nA (by assumption) (by omega) (by omega) (by omega)) ?_) rfl) rfl ⟨ble rfl, ble rfl⟩ (ble rfl) dJ4_append_bf812_2 rfl ⟨by omega, by omega⟩ (fun h2 q2 => ?_)
  refine x_pop dJ4_append_bf812_5 rfl ?_
  first | refine x_aload_n 0 dJ4_append_bf812_6 rfl rfl ?_ | refine x_aload_nN 0 dJ4_append_bf812_6 rfl rfl ?_
  refine x_aret rfl (by first | exact Or.inl ⟨_, rfl⟩ | exact Or.inr ⟨_, rfl⟩) (by first | exact Or.inl rfl | exact Or.inr ⟨_, rfl⟩ | assumption) dJ4_append_bf812_7 ?_
  exact ⟨rfl, q2⟩
theorem ct_sb_i {l : Launch} {G : Gl} {h : Hp} {a b m : Nat} {tx : List Int32} (T : SBTm G h a tx b m) (hA : G.2.2.1 a) (hAll : ∀ i, nmU i → h (Ad G i) ≠ none) {w : Nat} (hw : w < 100) (hl : tx.length + 2 ≤ 64) : CtP l G mJ4_append_bf812 5 1 130 [.ref a, .int (nI w)] h (some (.ref a)) (SBP G h a b (tx ++ dgs w)) := by
  by_cases q : w < 10
  · exact ct_sb_i1 T hA hAll q (by omega)
  · exact ct_sb_i2 T hA hAll hw (by omega) (by omega)
