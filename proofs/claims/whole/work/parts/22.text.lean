def chI (x : Int32) : Int32 := ((x &&& 255).toUInt32 % 65536).toInt32
theorem tsLen_le : ∀ k, k < 12 → tsLen k ≤ 50 := by decide +kernel
theorem sub_le0 {q m : Nat} (hq : q ≤ m) (hm : m ≤ 1000) : nI q - nI m ≤ 0 := by
  rw [Int32.le_iff_toInt_le, Int32.toInt_zero, Int32.toInt_sub, nI_toInt (by omega), nI_toInt (by omega)]
  simp only [Int.bmod]
  omega
theorem sub_le1 {q m : Nat} (hq : m < q) (hm : q ≤ 1000) : ¬ nI q - nI m ≤ 0 := by
  rw [nI_sub' (by omega)]
  exact nI_nle (by omega) (by omega)
theorem nI_maxx {y z : Nat} (hy : y ≤ 1000) (hz : z ≤ 1000) : (if nI y < nI z then nI z else nI y) = nI (max y z) := by
  by_cases q : y < z
  · rw [if_pos (nI_lt q (by omega)), Nat.max_eq_right (by omega)]
  · rw [if_neg (nI_nlt (by omega) (by omega)), Nat.max_eq_left (by omega)]
set_option maxRecDepth 100000 in
set_option maxHeartbeats 4000000 in
theorem ct_J5_length_8abf5 {l : Launch} {G : Gl} {h : Hp} {a b n : Nat} {ml : Int32} (ha : h a = some (.inr (0, [.ref b, .int 0, .int ml, .int (nI n)]))) : CtR l G mJ5_length_8abf5 1 [.ref a] h (some (.int (nI n))) (h) := by
  refine Ct.of (L := [(0, _)]) (by decide) (ble rfl) rfl ?_
  first | refine x_aload_n 0 dJ5_length_8abf5_0 rfl rfl ?_ | refine x_aload_nN 0 dJ5_length_8abf5_0 rfl rfl ?_
  refine x_get fJ5_79 rfl dJ5_length_8abf5_1 (by with_reducible repeat first | assumption | exact hset_s | refine hget_n (by first | assumption | exact Ne.symm (by assumption) | exact nA (by assumption) (by omega) (by omega) (by omega)) ?_) (by rfl) ?_
  refine x_iret rfl dJ5_length_8abf5_4 ?_
  exact ⟨rfl, rfl⟩
set_option maxRecDepth 100000 in
set_option maxHeartbeats 4000000 in
theorem ct_J4_length_8abf5 {l : Launch} {G : Gl} {h : Hp} {a b n : Nat} {ml : Int32} (ha : h a = some (.inr (0, [.ref b, .int 0, .int ml, .int (nI n)]))) : CtR l G mJ4_length_8abf5 2 [.ref a] h (some (.int (nI n))) (h) := by
  refine Ct.of (L := [(0, _)]) (by decide) (ble rfl) rfl ?_
  first | refine x_aload_n 0 dJ4_length_8abf5_0 rfl rfl ?_ | refine x_aload_nN 0 dJ4_length_8abf5_0 rfl rfl ?_
  refine x_suR1 (As := []) (ct_J5_length_8abf5 (by with_reducible repeat first | assumption | exact hset_s | refine hget_n (by first | assumption | exact Ne.symm (by assumption) | exact nA (by assumption) (by omega) (by omega) (by omega)) ?_)) qJ4_343 rfl (x_recv (by with_reducible repeat first | assumption | exact hset_s | refine hget_n (by first | assumption | exact Ne.symm (by assumption) | exact nA (by assumption) (by omega) (by omega) (by omega)) ?_) rfl) rfl ⟨ble rfl, ble rfl⟩ (ble rfl) dJ4_length_8abf5_1 rfl ?_
  refine x_iret rfl dJ4_length_8abf5_4 ?_
  exact ⟨rfl, rfl⟩
set_option maxRecDepth 100000 in
set_option maxHeartbeats 4000000 in
theorem ct_J5_isLatin1_aae02 {l : Launch} {G : Gl} {h : Hp} {a b n : Nat} {ml : Int32} (ha : h a = some (.inr (0, [.ref b, .int 0, .int ml, .int (nI n)]))) : CtR l G mJ5_isLatin1_aae02 1 [.ref a] h (some (.int 1)) (h) := by
  refine Ct.of (L := [(0, _)]) (by decide) (ble rfl) rfl ?_
  refine x_gets zCS rfl oJ5_18 dJ5_isLatin1_aae02_0 ?_
  refine x_if_eq 17 dJ5_isLatin1_aae02_3 (by decide) (fun z => by first | exact absurd z (by decide) | exact absurd (by decide) z) (fun _ => ?_)
  first | refine x_aload_n 0 dJ5_isLatin1_aae02_6 rfl rfl ?_ | refine x_aload_nN 0 dJ5_isLatin1_aae02_6 rfl rfl ?_
  refine x_get fJ5_22 rfl dJ5_isLatin1_aae02_7 (by with_reducible repeat first | assumption | exact hset_s | refine hget_n (by first | assumption | exact Ne.symm (by assumption) | exact nA (by assumption) (by omega) (by omega) (by omega)) ?_) (by rfl) ?_
  refine x_if_ne 17 dJ5_isLatin1_aae02_10 (by decide) (fun z => by first | exact absurd z (by decide) | exact absurd (by decide) z) (fun _ => ?_)
  refine x_iconst (v := 1) dJ5_isLatin1_aae02_13 rfl ?_
  refine x_goto 18 dJ5_isLatin1_aae02_14 (by decide) ?_
  refine x_zret rfl (by first | rfl | (split <;> rfl) | (unfold b2i; split <;> rfl)) dJ5_isLatin1_aae02_18 ?_
  exact ⟨rfl, rfl⟩
set_option maxRecDepth 100000 in
set_option maxHeartbeats 4000000 in
theorem ct_J1_canEncode_fc78d {l : Launch} {G : Gl} {h : Hp} {c : Int32} (hc : c < 128) : CtR l G mJ1_canEncode_fc78d 1 [.int c] h (some (.int 1)) (h) := by
  refine Ct.of (L := [(0, _)]) (by decide) (ble rfl) rfl ?_
  refine x_iload_n 0 dJ1_canEncode_fc78d_0 rfl rfl ?_
  refine x_sipush (v := 255) dJ1_canEncode_fc78d_1 rfl ?_
  refine x_icmp_gt 11 dJ1_canEncode_fc78d_4 (by decide) (fun z => by first | exact absurd z (by (simp only [Int32.lt_iff_toInt_lt, Int32.le_iff_toInt_le] at *; have h1 : Int32.toInt 128 = 128 := rfl; have h2 : Int32.toInt 255 = 255 := rfl; omega)) | exact absurd (by (simp only [Int32.lt_iff_toInt_lt, Int32.le_iff_toInt_le] at *; have h1 : Int32.toInt 128 = 128 := rfl; have h2 : Int32.toInt 255 = 255 := rfl; omega)) z) (fun _ => ?_)
  refine x_iconst (v := 1) dJ1_canEncode_fc78d_7 rfl ?_
  refine x_goto 12 dJ1_canEncode_fc78d_8 (by decide) ?_
  refine x_zret rfl (by first | rfl | (split <;> rfl) | (unfold b2i; split <;> rfl)) dJ1_canEncode_fc78d_12 ?_
  exact ⟨rfl, rfl⟩
set_option maxRecDepth 100000 in
set_option maxHeartbeats 4000000 in
theorem ct_J8_newLength_cabcc {l : Launch} {G : Gl} {h : Hp} {x y z : Nat} (hx : x ≤ 1000) (hy : 0 < y ∧ y ≤ 1000) (hz : z ≤ 1000) : CtR l G mJ8_newLength_cabcc 1 [.int (nI x), .int (nI y), .int (nI z)] h (some (.int (nI (x + max y z)))) (h) := by
  refine Ct.of (L := [(0, _), (1, _), (2, _)]) (by decide) (ble rfl) rfl ?_
  refine x_iload_n 0 dJ8_newLength_cabcc_0 rfl rfl ?_
  refine x_iload_n 1 dJ8_newLength_cabcc_1 rfl rfl ?_
  refine x_iload_n 2 dJ8_newLength_cabcc_2 rfl rfl ?_
  refine x_mmax rfl wJ8_194 wMmax2 wMath3 wMmax4 (ble rfl) (ble rfl) dJ8_newLength_cabcc_3 ?_
  refine x_iadd dJ8_newLength_cabcc_6 ?_
  refine x_istore_n (L' := [(3, _), (0, _), (1, _), (2, _)]) dJ8_newLength_cabcc_7 rfl (ble rfl) rfl ?_
  refine x_eqL (L' := [(3, .int (nI (x + max y z))), (0, _), (1, _), (2, _)]) (by rw [nI_maxx hy.2 hz, nI_add]) ?_
  refine x_iconst (v := 0) dJ8_newLength_cabcc_8 rfl ?_
  refine x_iload_n 0 dJ8_newLength_cabcc_9 rfl rfl ?_
  refine x_icmp_ge 21 dJ8_newLength_cabcc_10 (by decide) (fun z => by first | exact absurd z (show ¬ nI _ ≤ nI 0 from fun z => absurd (nI_lt (by omega) (by omega)) (Int32.not_lt.mpr z)) | exact absurd (show ¬ nI _ ≤ nI 0 from fun z => absurd (nI_lt (by omega) (by omega)) (Int32.not_lt.mpr z)) z) (fun _ => ?_)
  refine x_iload_n 0 dJ8_newLength_cabcc_13 rfl rfl ?_
  refine x_ldc (v := 2147483639) rfl (List.mem_append_right _ (List.mem_of_getElem? (i := 406) (by decide +kernel))) dJ8_newLength_cabcc_14 ?_
  refine x_icmp_gt 21 dJ8_newLength_cabcc_16 (by decide) (fun z => by first | exact absurd z (show ¬ nI 2147483639 < nI _ from nI_nlt (by omega) (by omega)) | exact absurd (show ¬ nI 2147483639 < nI _ from nI_nlt (by omega) (by omega)) z) (fun _ => ?_)
  refine x_iload_n 0 dJ8_newLength_cabcc_19 rfl rfl ?_
  refine x_iret rfl dJ8_newLength_cabcc_20 ?_
  exact ⟨rfl, rfl⟩
set_option maxRecDepth 100000 in
set_option maxHeartbeats 4000000 in
theorem ct_J5_newCapacity_0f7a4 {l : Launch} {G : Gl} {h : Hp} {a b m n : Nat} {ml : Int32} {f : Nat → Int32} (ha : h a = some (.inr (0, [.ref b, .int 0, .int ml, .int (nI n)]))) (hb : h b = some (eB G m f)) {q : Nat} (hq : m < q) (hm : q ≤ 300) : CtR l G mJ5_newCapacity_0f7a4 2 [.ref a, .int (nI q)] h (some (.int (nI (m + max (q - m) (m + 2))))) (h) := by
  refine Ct.of (L := [(0, _), (1, _)]) (by decide) (ble rfl) rfl ?_
  first | refine x_aload_n 0 dJ5_newCapacity_0f7a4_0 rfl rfl ?_ | refine x_aload_nN 0 dJ5_newCapacity_0f7a4_0 rfl rfl ?_
  refine x_get fJ5_15 rfl dJ5_newCapacity_0f7a4_1 (by with_reducible repeat first | assumption | exact hset_s | refine hget_n (by first | assumption | exact Ne.symm (by assumption) | exact nA (by assumption) (by omega) (by omega) (by omega)) ?_) (by rfl) ?_
  refine x_alen 2 rfl dJ5_newCapacity_0f7a4_4 (by with_reducible repeat first | assumption | exact hset_s | refine hget_n (by first | assumption | exact Ne.symm (by assumption) | exact nA (by assumption) (by omega) (by omega) (by omega)) ?_) (v := nI m) rfl ?_
  refine x_istore_n (L' := [(2, _), (0, _), (1, _)]) dJ5_newCapacity_0f7a4_5 rfl (ble rfl) rfl ?_
  refine x_iload_n 2 dJ5_newCapacity_0f7a4_6 rfl rfl ?_
  first | refine x_aload_n 1 dJ5_newCapacity_0f7a4_7 rfl rfl ?_ | refine x_aload_nN 1 dJ5_newCapacity_0f7a4_7 rfl rfl ?_
  refine x_get fJ5_22 rfl dJ5_newCapacity_0f7a4_8 (by with_reducible repeat first | assumption | exact hset_s | refine hget_n (by first | assumption | exact Ne.symm (by assumption) | exact nA (by assumption) (by omega) (by omega) (by omega)) ?_) (by rfl) ?_
  refine x_ishl dJ5_newCapacity_0f7a4_11 ?_
  rw [sb_shl0]
  refine x_istore_n (L' := [(3, _), (2, _), (0, _), (1, _)]) dJ5_newCapacity_0f7a4_12 rfl (ble rfl) rfl ?_
  refine x_iload_n 0 dJ5_newCapacity_0f7a4_13 rfl rfl ?_
  refine x_iload_n 1 dJ5_newCapacity_0f7a4_14 rfl rfl ?_
  refine x_isub dJ5_newCapacity_0f7a4_15 ?_
  rw [nI_sub' (by omega)]
  refine x_istore (L' := [(4, _), (3, _), (2, _), (0, _), (1, _)]) dJ5_newCapacity_0f7a4_16 (ble rfl) rfl ?_
  refine x_iload_n 2 dJ5_newCapacity_0f7a4_18 rfl rfl ?_
  refine x_iload 0 dJ5_newCapacity_0f7a4_19 rfl ?_
  refine x_iload_n 2 dJ5_newCapacity_0f7a4_21 rfl rfl ?_
  refine x_iconst (v := 2) dJ5_newCapacity_0f7a4_22 rfl ?_
  first | refine x_aload_n 3 dJ5_newCapacity_0f7a4_23 rfl rfl ?_ | refine x_aload_nN 3 dJ5_newCapacity_0f7a4_23 rfl rfl ?_
  refine x_get fJ5_22 rfl dJ5_newCapacity_0f7a4_24 (by with_reducible repeat first | assumption | exact hset_s | refine hget_n (by first | assumption | exact Ne.symm (by assumption) | exact nA (by assumption) (by omega) (by omega) (by omega)) ?_) (by rfl) ?_
  refine x_ishl dJ5_newCapacity_0f7a4_27 ?_
  refine x_iadd dJ5_newCapacity_0f7a4_28 ?_
  rw [sb_shl0]
  refine x_eqS (st' := [.int (nI (m + 2)), .int (nI (q - m)), .int (nI m)]) (by rw [show (2 : Int32) = nI 2 from rfl, nI_add]) ?_
  refine x_cS1 (As := [.int _, .int _, .int _]) (ct_J8_newLength_cabcc (by omega) (by omega) (by omega)) vJ5_114 rfl rfl ⟨ble rfl, ble rfl⟩ (ble rfl) dJ5_newCapacity_0f7a4_29 rfl ?_
  refine x_istore (L' := [(5, _), (4, _), (3, _), (2, _), (0, _), (1, _)]) dJ5_newCapacity_0f7a4_32 (ble rfl) rfl ?_
  refine x_iload 0 dJ5_newCapacity_0f7a4_34 rfl ?_
  refine x_ldc (v := 2147483647) rfl (List.mem_append_right _ (List.mem_of_getElem? (i := 410) (by decide +kernel))) dJ5_newCapacity_0f7a4_36 ?_
  refine x_icmp_ne 51 dJ5_newCapacity_0f7a4_38 (by decide) (fun _ => ?_) (fun z => by first | exact absurd (show ¬ nI _ = nI 2147483647 from fun z => by have := (nI_eq (by omega) (by omega)).mp z; omega) z | exact absurd z (show ¬ nI _ = nI 2147483647 from fun z => by have := (nI_eq (by omega) (by omega)).mp z; omega))
  refine x_iload 0 dJ5_newCapacity_0f7a4_51 rfl ?_
  first | refine x_aload_n 4 dJ5_newCapacity_0f7a4_53 rfl rfl ?_ | refine x_aload_nN 4 dJ5_newCapacity_0f7a4_53 rfl rfl ?_
  refine x_get fJ5_22 rfl dJ5_newCapacity_0f7a4_54 (by with_reducible repeat first | assumption | exact hset_s | refine hget_n (by first | assumption | exact Ne.symm (by assumption) | exact nA (by assumption) (by omega) (by omega) (by omega)) ?_) (by rfl) ?_
  refine x_ishr dJ5_newCapacity_0f7a4_57 ?_
  rw [sb_shr0]
  refine x_iret rfl dJ5_newCapacity_0f7a4_58 ?_
  exact ⟨rfl, rfl⟩
set_option maxRecDepth 100000 in
set_option maxHeartbeats 4000000 in
theorem ct_J7_copyOf_9075b {l : Launch} {G : Gl} {h : Hp} {b m q : Nat} {f : Nat → Int32} (hb : h b = some (eB G m f)) (hfit : ∀ i, i < m → fits .byte (.int (f i)) = true) (hq : m < q) (hq2 : q ≤ 1000) : Ct l G mJ7_copyOf_9075b 2 (1) (q) [.ref b, .int (nI q)] h (fun w h' => ∃ r, w = some (.ref r) ∧ h r = none ∧ G.2.2.1 r ∧ h' = hset h r (eB G q (va_cpy f (fun _ => 0) 0 0 m))) := by
  refine Ct.of (L := [(0, _), (1, _)]) (by decide) (ble rfl) rfl ?_
  refine x_iload_n 1 dJ7_copyOf_9075b_0 rfl rfl ?_
  first | refine x_aload_n 0 dJ7_copyOf_9075b_1 rfl rfl ?_ | refine x_aload_nN 0 dJ7_copyOf_9075b_1 rfl rfl ?_
  refine x_alen 2 rfl dJ7_copyOf_9075b_2 (by with_reducible repeat first | assumption | exact hset_s | refine hget_n (by first | assumption | exact Ne.symm (by assumption) | exact nA (by assumption) (by omega) (by omega) (by omega)) ?_) (v := nI m) rfl ?_
  refine x_icmp_ne 14 dJ7_copyOf_9075b_3 (by decide) (fun _ => ?_) (fun z => by first | exact absurd (fun z => by have := (nI_eq (by omega) (by omega)).mp z; omega) z | exact absurd z (fun z => by have := (nI_eq (by omega) (by omega)).mp z; omega))
  refine x_iload_n 1 dJ7_copyOf_9075b_14 rfl rfl ?_
  refine x_bud (mc' := 0 + 1) (ms' := 0 + q) (by omega) (by omega) ?_
  refine x_newa (ty := .byte) 2 q rfl rfl (List.mem_append_right _ (List.mem_of_getElem? (i := 303) (by decide +kernel))) rfl rfl rfl (by intro C0 hh; cases hh) (by show q * 1 ≤ _; omega) (by omega) dJ7_copyOf_9075b_15 (fun r hr hrA => ?_)
  have hbr : b ≠ r := fun e => by rw [e, hr] at hb; cases hb
  have hb1 : hset h r (eB G q (fun _ => 0)) b = some (eB G m f) := hget_n hbr hb
  first | refine x_astore_n (L' := [(2, _), (0, _), (1, _)]) dJ7_copyOf_9075b_17 rfl (ble rfl) rfl ?_ | refine x_astore_nN (L' := [(2, _), (0, _), (1, _)]) dJ7_copyOf_9075b_17 rfl (ble rfl) rfl ?_
  first | refine x_aload_n 1 dJ7_copyOf_9075b_18 rfl rfl ?_ | refine x_aload_nN 1 dJ7_copyOf_9075b_18 rfl rfl ?_
  refine x_iconst (v := 0) dJ7_copyOf_9075b_19 rfl ?_
  first | refine x_aload_n 0 dJ7_copyOf_9075b_20 rfl rfl ?_ | refine x_aload_nN 0 dJ7_copyOf_9075b_20 rfl rfl ?_
  refine x_iconst (v := 0) dJ7_copyOf_9075b_21 rfl ?_
  first | refine x_aload_n 1 dJ7_copyOf_9075b_22 rfl rfl ?_ | refine x_aload_nN 1 dJ7_copyOf_9075b_22 rfl rfl ?_
  refine x_alen 2 rfl dJ7_copyOf_9075b_23 hb1 (v := nI m) rfl ?_
  refine x_iload_n 2 dJ7_copyOf_9075b_24 rfl rfl ?_
  refine x_mmin rfl wJ7_304 wMmin2 wMath3 wMmin4 (ble rfl) (ble rfl) dJ7_copyOf_9075b_25 ?_
  rw [show (if nI q < nI m then nI q else nI m) = nI m from if_neg (nI_nlt (by omega) (by omega))]
  refine x_copy (sp := 0) (dp := 0) (n := m) rfl (List.mem_append_right _ (List.mem_of_getElem? (i := 424) (by decide +kernel))) (List.mem_append_right _ (List.mem_of_getElem? (i := 426) (by decide +kernel))) (List.mem_append_right _ (List.mem_of_getElem? (i := 425) (by decide +kernel))) (List.mem_append_right _ (List.mem_of_getElem? (i := 21) (by decide +kernel))) (src_dyn hb1) hset_s hrA ⟨by omega, by omega⟩ (by omega) (by omega) (fun i hi => by rw [Nat.zero_add]; exact hfit i hi) (ble rfl) (by show 0 + (nativeFrameWords "java/lang/System" "arraycopy" 5 + 11) ≤ 38 * 2; decide) dJ7_copyOf_9075b_28 ?_
  first | refine x_aload_n 0 dJ7_copyOf_9075b_31 rfl rfl ?_ | refine x_aload_nN 0 dJ7_copyOf_9075b_31 rfl rfl ?_
  refine x_aret rfl (by first | exact Or.inl ⟨_, rfl⟩ | exact Or.inr ⟨_, rfl⟩) (by first | exact Or.inl rfl | exact Or.inr ⟨_, rfl⟩ | assumption) dJ7_copyOf_9075b_32 ?_
  exact ⟨r, rfl, hr, hrA, by rw [hset_2]⟩
set_option maxRecDepth 100000 in
set_option maxHeartbeats 4000000 in
theorem ct_ens_no {l : Launch} {G : Gl} {h : Hp} {a b m n : Nat} {ml : Int32} {f : Nat → Int32} (ha : h a = some (.inr (0, [.ref b, .int 0, .int ml, .int (nI n)]))) (hb : h b = some (eB G m f)) {q : Nat} (hq : q ≤ m) (hm : m ≤ 300) : CtR l G mJ5_ensureCapacityInternal_d00df 3 [.ref a, .int (nI q)] h (none) (h) := by
  refine Ct.of (L := [(0, _), (1, _)]) (by decide) (ble rfl) rfl ?_
  first | refine x_aload_n 0 dJ5_ensureCapacityInternal_d00df_0 rfl rfl ?_ | refine x_aload_nN 0 dJ5_ensureCapacityInternal_d00df_0 rfl rfl ?_
  refine x_get fJ5_15 rfl dJ5_ensureCapacityInternal_d00df_1 (by with_reducible repeat first | assumption | exact hset_s | refine hget_n (by first | assumption | exact Ne.symm (by assumption) | exact nA (by assumption) (by omega) (by omega) (by omega)) ?_) (by rfl) ?_
  refine x_alen 2 rfl dJ5_ensureCapacityInternal_d00df_4 (by with_reducible repeat first | assumption | exact hset_s | refine hget_n (by first | assumption | exact Ne.symm (by assumption) | exact nA (by assumption) (by omega) (by omega) (by omega)) ?_) (v := nI m) rfl ?_
  first | refine x_aload_n 0 dJ5_ensureCapacityInternal_d00df_5 rfl rfl ?_ | refine x_aload_nN 0 dJ5_ensureCapacityInternal_d00df_5 rfl rfl ?_
  refine x_get fJ5_22 rfl dJ5_ensureCapacityInternal_d00df_6 (by with_reducible repeat first | assumption | exact hset_s | refine hget_n (by first | assumption | exact Ne.symm (by assumption) | exact nA (by assumption) (by omega) (by omega) (by omega)) ?_) (by rfl) ?_
  refine x_ishr dJ5_ensureCapacityInternal_d00df_9 ?_
  rw [sb_shr0]
  refine x_istore_n (L' := [(2, _), (0, _), (1, _)]) dJ5_ensureCapacityInternal_d00df_10 rfl (ble rfl) rfl ?_
  refine x_iload_n 2 dJ5_ensureCapacityInternal_d00df_11 rfl rfl ?_
  refine x_iload_n 0 dJ5_ensureCapacityInternal_d00df_12 rfl rfl ?_
  refine x_isub dJ5_ensureCapacityInternal_d00df_13 ?_
  refine x_if_le 38 dJ5_ensureCapacityInternal_d00df_14 (by decide) (fun _ => ?_) (fun z => by first | exact absurd (sub_le0 hq (by omega)) z | exact absurd z (sub_le0 hq (by omega)))
  refine x_vret rfl dJ5_ensureCapacityInternal_d00df_38 ?_
  exact ⟨rfl, rfl⟩
set_option maxRecDepth 100000 in
set_option maxHeartbeats 4000000 in
theorem ct_ens_yes {l : Launch} {G : Gl} {h : Hp} {a b m n : Nat} {ml : Int32} {f : Nat → Int32} (ha : h a = some (.inr (0, [.ref b, .int 0, .int ml, .int (nI n)]))) (hb : h b = some (eB G m f)) (hab : a ≠ b) (hA : G.2.2.1 a) (hB : G.2.2.1 b) (hfit : ∀ i, i < m → fits .byte (.int (f i)) = true) {q : Nat} (hq : m < q) (hm : q ≤ 64) : CtP l G mJ5_ensureCapacityInternal_d00df 3 (1) (130) [.ref a, .int (nI q)] h (none) (fun h' => ∃ r, h r = none ∧ G.2.2.1 r ∧ h' = hset (hset h r (eB G (m + max (q - m) (m + 2)) (va_cpy f (fun _ => 0) 0 0 m))) a (.inr (0, [.ref r, .int 0, .int ml, .int (nI n)]))) := by
  refine Ct.of (L := [(0, _), (1, _)]) (by decide) (ble rfl) rfl ?_
  first | refine x_aload_n 0 dJ5_ensureCapacityInternal_d00df_0 rfl rfl ?_ | refine x_aload_nN 0 dJ5_ensureCapacityInternal_d00df_0 rfl rfl ?_
  refine x_get fJ5_15 rfl dJ5_ensureCapacityInternal_d00df_1 (by with_reducible repeat first | assumption | exact hset_s | refine hget_n (by first | assumption | exact Ne.symm (by assumption) | exact nA (by assumption) (by omega) (by omega) (by omega)) ?_) (by rfl) ?_
  refine x_alen 2 rfl dJ5_ensureCapacityInternal_d00df_4 (by with_reducible repeat first | assumption | exact hset_s | refine hget_n (by first | assumption | exact Ne.symm (by assumption) | exact nA (by assumption) (by omega) (by omega) (by omega)) ?_) (v := nI m) rfl ?_
  first | refine x_aload_n 0 dJ5_ensureCapacityInternal_d00df_5 rfl rfl ?_ | refine x_aload_nN 0 dJ5_ensureCapacityInternal_d00df_5 rfl rfl ?_
  refine x_get fJ5_22 rfl dJ5_ensureCapacityInternal_d00df_6 (by with_reducible repeat first | assumption | exact hset_s | refine hget_n (by first | assumption | exact Ne.symm (by assumption) | exact nA (by assumption) (by omega) (by omega) (by omega)) ?_) (by rfl) ?_
  refine x_ishr dJ5_ensureCapacityInternal_d00df_9 ?_
  rw [sb_shr0]
  refine x_istore_n (L' := [(2, _), (0, _), (1, _)]) dJ5_ensureCapacityInternal_d00df_10 rfl (ble rfl) rfl ?_
  refine x_iload_n 2 dJ5_ensureCapacityInternal_d00df_11 rfl rfl ?_
  refine x_iload_n 0 dJ5_ensureCapacityInternal_d00df_12 rfl rfl ?_
  refine x_isub dJ5_ensureCapacityInternal_d00df_13 ?_
  refine x_if_le 38 dJ5_ensureCapacityInternal_d00df_14 (by decide) (fun z => by first | exact absurd z (sub_le1 hq (by omega)) | exact absurd (sub_le1 hq (by omega)) z) (fun _ => ?_)
  first | refine x_aload_n 1 dJ5_ensureCapacityInternal_d00df_17 rfl rfl ?_ | refine x_aload_nN 1 dJ5_ensureCapacityInternal_d00df_17 rfl rfl ?_
  first | refine x_aload_n 1 dJ5_ensureCapacityInternal_d00df_18 rfl rfl ?_ | refine x_aload_nN 1 dJ5_ensureCapacityInternal_d00df_18 rfl rfl ?_
  refine x_get fJ5_15 rfl dJ5_ensureCapacityInternal_d00df_19 (by with_reducible repeat first | assumption | exact hset_s | refine hget_n (by first | assumption | exact Ne.symm (by assumption) | exact nA (by assumption) (by omega) (by omega) (by omega)) ?_) (by rfl) ?_
  first | refine x_aload_n 1 dJ5_ensureCapacityInternal_d00df_22 rfl rfl ?_ | refine x_aload_nN 1 dJ5_ensureCapacityInternal_d00df_22 rfl rfl ?_
  refine x_iload_n 2 dJ5_ensureCapacityInternal_d00df_23 rfl rfl ?_
  refine x_qR1 (As := [.int _]) (ct_J5_newCapacity_0f7a4 ha hb (by omega) (by omega)) qJ5_104 rfl (x_recv (by with_reducible repeat first | assumption | exact hset_s | refine hget_n (by first | assumption | exact Ne.symm (by assumption) | exact nA (by assumption) (by omega) (by omega) (by omega)) ?_) rfl) rfl ⟨ble rfl, ble rfl⟩ (ble rfl) dJ5_ensureCapacityInternal_d00df_24 rfl ?_
  first | refine x_aload_n 1 dJ5_ensureCapacityInternal_d00df_27 rfl rfl ?_ | refine x_aload_nN 1 dJ5_ensureCapacityInternal_d00df_27 rfl rfl ?_
  refine x_get fJ5_22 rfl dJ5_ensureCapacityInternal_d00df_28 (by with_reducible repeat first | assumption | exact hset_s | refine hget_n (by first | assumption | exact Ne.symm (by assumption) | exact nA (by assumption) (by omega) (by omega) (by omega)) ?_) (by rfl) ?_
  refine x_ishl dJ5_ensureCapacityInternal_d00df_31 ?_
  rw [sb_shl0]
  refine x_callS (mc1 := 0) (ms1 := 0) (As := [.ref _, .int _]) (ct_J7_copyOf_9075b hb hfit (by omega) (by omega)) vJ5_108 rfl rfl ⟨ble rfl, ble rfl⟩ (ble rfl) dJ5_ensureCapacityInternal_d00df_32 rfl ⟨by omega, by omega⟩ (fun w h9 q9 => ?_)
  obtain ⟨r, rfl, hr, hrA, rfl⟩ := q9
  have har : a ≠ r := fun e => by rw [e, hr] at ha; cases ha
  have ha1 : hset h r (eB G (m + max (q - m) (m + 2)) (va_cpy f (fun _ => 0) 0 0 m)) a = some (.inr (0, [.ref b, .int 0, .int ml, .int (nI n)])) := hget_n har ha
  refine x_put fJ5_15 rfl rfl rfl rfl dJ5_ensureCapacityInternal_d00df_35 (by with_reducible repeat first | assumption | exact hset_s | refine hget_n (by first | assumption | exact Ne.symm (by assumption) | exact nA (by assumption) (by omega) (by omega) (by omega)) ?_) (by exact ble rfl) (by first | assumption | exact aA (by assumption) (by omega)) ?_
  refine x_vret rfl dJ5_ensureCapacityInternal_d00df_38 ?_
  exact ⟨rfl, r, hr, hrA, rfl⟩
/-- a builder of text: its letters, and where its bytes lie -/
def SBT (G : Gl) (h : Hp) (a : Nat) (tx : List Int32) (b : Nat) : Prop := ∃ (m : Nat) (ml : Int32) (f : Nat → Int32), h a = some (.inr (0, [.ref b, .int 0, .int ml, .int (nI tx.length)])) ∧ h b = some (eB G m f) ∧ a ≠ b ∧ G.2.2.1 b ∧ tx.length ≤ m ∧ m ≤ 130 ∧ (∀ i, i < m → fits .byte (.int (f i)) = true) ∧ (∀ i, i < tx.length → f i = tx.getD i 0) ∧ ∀ i, nmU i → Ad G i ≠ b
def SBP (G : Gl) (h : Hp) (a b : Nat) (tx : List Int32) (h' : Hp) : Prop := ∃ b', SBT G h' a tx b' ∧ (b' = b ∨ h b' = none) ∧ Fr (fun x => x = a ∨ x = b) h h'
theorem fit_ascii {c : Int32} (h : 0 ≤ c ∧ c < 128) : fits .byte (.int c) = true ∧ c.toInt8.toInt32 = c := by
  refine ⟨by simp only [fits, Bool.and_eq_true, decide_eq_true_eq, Int32.le_iff_toInt_le, Int32.lt_iff_toInt_lt] at *; have h1 : Int32.toInt 128 = 128 := rfl; have h2 : Int32.toInt 127 = 127 := rfl; have h3 : Int32.toInt (-128) = -128 := rfl; have h0 : Int32.toInt 0 = 0 := rfl; omega, ?_⟩
  rw [← Int32.toInt_inj]
  simp only [Int32.toInt_toInt8, Int8.toInt_toInt32, Int32.le_iff_toInt_le, Int32.lt_iff_toInt_lt] at *
  have h1 : Int32.toInt 128 = 128 := rfl
  have h0 : Int32.toInt 0 = 0 := rfl
  simp only [Int.bmod]
  omega
theorem fit_i8 (c : Int32) : fits .byte (.int c.toInt8.toInt32) = true := by
  have := Int8.toInt_lt c.toInt8
  have h9 := Int8.le_toInt c.toInt8
  simp only [fits, Bool.and_eq_true, decide_eq_true_eq, Int32.le_iff_toInt_le, Int8.toInt_toInt32]
  have h2 : Int32.toInt 127 = 127 := rfl
  have h3 : Int32.toInt (-128) = -128 := rfl
  omega
