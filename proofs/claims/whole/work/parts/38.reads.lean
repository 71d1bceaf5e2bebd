set_option maxRecDepth 100000 in
set_option maxHeartbeats 4000000 in
theorem ct_X12_coinsAgain {l : Launch} {G : Gl} {h : Hp} {sv rem typ err lin why wha beh its siz att wro tol : Int32} {N : Nat → Int32} (ok : Ok G)  : CtR l G mX12_coinsAgain 1 [.ref (Ad G 20)] (mH G h (eMd G sv rem typ err lin why wha beh its siz att wro tol) N) (some (.int (30 + N 9 - N 10))) (mH G h (eMd G sv rem typ err lin why wha beh its siz att wro tol) N) := by
  refine Ct.of (L := [(0, _)]) (by decide) (ble rfl) rfl ?_
  refine x_bipush (v := 30) dX12_coinsAgain_0 rfl ?_
  first | refine x_aload_n 0 dX12_coinsAgain_2 rfl rfl ?_ | refine x_aload_nN 0 dX12_coinsAgain_2 rfl rfl ?_
  refine x_get fX12_9 rfl dX12_coinsAgain_3 (by with_reducible repeat first | assumption | exact mH_0 ok | exact mH_1 | exact hset_s | refine mH_o (by first | assumption | exact nA ok (by omega) (by omega) (by omega)) (by first | assumption | exact nA ok (by omega) (by omega) (by omega)) ?_ | refine hget_n (by first | assumption | exact Ne.symm (by assumption) | exact nA ok (by omega) (by omega) (by omega)) ?_) (by rfl) ?_
  refine x_bipush (v := 9) dX12_coinsAgain_6 rfl ?_
  refine x_mald (i := 9) (by first | exact Eq.refl (nI _) | exact ix_p _ _ | exact ix_o _ _ | exact ix_s _ | exact ix_s1 _ _ | (rw [ix_s]; exact nI_add _ _) | exact nI_add _ 1 | exact nI_add _ 2 | exact nI_add _ 3 | exact nI_add _ 4 | (rw [ix_o0]; exact nI_add _ 3) | (rw [ix_o0]; exact nI_add _ 4) | (rw [ix_o0]; exact nI_add _ _) | (rw [ix_o0]; exact (nI_add _ 3).trans (congrArg nI (by omega))) | (rw [ix_o0]; exact (nI_add _ 4).trans (congrArg nI (by omega))) | exact (nI_add _ 1).trans (congrArg nI (by omega)) | exact (nI_add _ 2).trans (congrArg nI (by omega)) | exact (nI_add _ 3).trans (congrArg nI (by omega)) | exact (nI_add _ 4).trans (congrArg nI (by omega))) dX12_coinsAgain_8 (by omega) rfl ?_
  refine x_iadd dX12_coinsAgain_9 ?_
  first | refine x_aload_n 0 dX12_coinsAgain_10 rfl rfl ?_ | refine x_aload_nN 0 dX12_coinsAgain_10 rfl rfl ?_
  refine x_get fX12_9 rfl dX12_coinsAgain_11 (by with_reducible repeat first | assumption | exact mH_0 ok | exact mH_1 | exact hset_s | refine mH_o (by first | assumption | exact nA ok (by omega) (by omega) (by omega)) (by first | assumption | exact nA ok (by omega) (by omega) (by omega)) ?_ | refine hget_n (by first | assumption | exact Ne.symm (by assumption) | exact nA ok (by omega) (by omega) (by omega)) ?_) (by rfl) ?_
  refine x_bipush (v := 10) dX12_coinsAgain_14 rfl ?_
  refine x_mald (i := 10) (by first | exact Eq.refl (nI _) | exact ix_p _ _ | exact ix_o _ _ | exact ix_s _ | exact ix_s1 _ _ | (rw [ix_s]; exact nI_add _ _) | exact nI_add _ 1 | exact nI_add _ 2 | exact nI_add _ 3 | exact nI_add _ 4 | (rw [ix_o0]; exact nI_add _ 3) | (rw [ix_o0]; exact nI_add _ 4) | (rw [ix_o0]; exact nI_add _ _) | (rw [ix_o0]; exact (nI_add _ 3).trans (congrArg nI (by omega))) | (rw [ix_o0]; exact (nI_add _ 4).trans (congrArg nI (by omega))) | exact (nI_add _ 1).trans (congrArg nI (by omega)) | exact (nI_add _ 2).trans (congrArg nI (by omega)) | exact (nI_add _ 3).trans (congrArg nI (by omega)) | exact (nI_add _ 4).trans (congrArg nI (by omega))) dX12_coinsAgain_16 (by omega) rfl ?_
  refine x_isub dX12_coinsAgain_17 ?_
  refine x_iret rfl dX12_coinsAgain_18 ?_
  exact ⟨rfl, rfl⟩
set_option maxRecDepth 100000 in
set_option maxHeartbeats 4000000 in
theorem ct_X12_barsAgain {l : Launch} {G : Gl} {h : Hp} {sv rem typ err lin why wha beh its siz att wro tol : Int32} {N : Nat → Int32} (ok : Ok G)  : CtR l G mX12_barsAgain 1 [.ref (Ad G 20)] (mH G h (eMd G sv rem typ err lin why wha beh its siz att wro tol) N) (some (.int (N 11 - N 8))) (mH G h (eMd G sv rem typ err lin why wha beh its siz att wro tol) N) := by
  refine Ct.of (L := [(0, _)]) (by decide) (ble rfl) rfl ?_
  first | refine x_aload_n 0 dX12_barsAgain_0 rfl rfl ?_ | refine x_aload_nN 0 dX12_barsAgain_0 rfl rfl ?_
  refine x_get fX12_9 rfl dX12_barsAgain_1 (by with_reducible repeat first | assumption | exact mH_0 ok | exact mH_1 | exact hset_s | refine mH_o (by first | assumption | exact nA ok (by omega) (by omega) (by omega)) (by first | assumption | exact nA ok (by omega) (by omega) (by omega)) ?_ | refine hget_n (by first | assumption | exact Ne.symm (by assumption) | exact nA ok (by omega) (by omega) (by omega)) ?_) (by rfl) ?_
  refine x_bipush (v := 11) dX12_barsAgain_4 rfl ?_
  refine x_mald (i := 11) (by first | exact Eq.refl (nI _) | exact ix_p _ _ | exact ix_o _ _ | exact ix_s _ | exact ix_s1 _ _ | (rw [ix_s]; exact nI_add _ _) | exact nI_add _ 1 | exact nI_add _ 2 | exact nI_add _ 3 | exact nI_add _ 4 | (rw [ix_o0]; exact nI_add _ 3) | (rw [ix_o0]; exact nI_add _ 4) | (rw [ix_o0]; exact nI_add _ _) | (rw [ix_o0]; exact (nI_add _ 3).trans (congrArg nI (by omega))) | (rw [ix_o0]; exact (nI_add _ 4).trans (congrArg nI (by omega))) | exact (nI_add _ 1).trans (congrArg nI (by omega)) | exact (nI_add _ 2).trans (congrArg nI (by omega)) | exact (nI_add _ 3).trans (congrArg nI (by omega)) | exact (nI_add _ 4).trans (congrArg nI (by omega))) dX12_barsAgain_6 (by omega) rfl ?_
  first | refine x_aload_n 0 dX12_barsAgain_7 rfl rfl ?_ | refine x_aload_nN 0 dX12_barsAgain_7 rfl rfl ?_
  refine x_get fX12_9 rfl dX12_barsAgain_8 (by with_reducible repeat first | assumption | exact mH_0 ok | exact mH_1 | exact hset_s | refine mH_o (by first | assumption | exact nA ok (by omega) (by omega) (by omega)) (by first | assumption | exact nA ok (by omega) (by omega) (by omega)) ?_ | refine hget_n (by first | assumption | exact Ne.symm (by assumption) | exact nA ok (by omega) (by omega) (by omega)) ?_) (by rfl) ?_
  refine x_bipush (v := 8) dX12_barsAgain_11 rfl ?_
  refine x_mald (i := 8) (by first | exact Eq.refl (nI _) | exact ix_p _ _ | exact ix_o _ _ | exact ix_s _ | exact ix_s1 _ _ | (rw [ix_s]; exact nI_add _ _) | exact nI_add _ 1 | exact nI_add _ 2 | exact nI_add _ 3 | exact nI_add _ 4 | (rw [ix_o0]; exact nI_add _ 3) | (rw [ix_o0]; exact nI_add _ 4) | (rw [ix_o0]; exact nI_add _ _) | (rw [ix_o0]; exact (nI_add _ 3).trans (congrArg nI (by omega))) | (rw [ix_o0]; exact (nI_add _ 4).trans (congrArg nI (by omega))) | exact (nI_add _ 1).trans (congrArg nI (by omega)) | exact (nI_add _ 2).trans (congrArg nI (by omega)) | exact (nI_add _ 3).trans (congrArg nI (by omega)) | exact (nI_add _ 4).trans (congrArg nI (by omega))) dX12_barsAgain_13 (by omega) rfl ?_
  refine x_isub dX12_barsAgain_14 ?_
  refine x_iret rfl dX12_barsAgain_15 ?_
  exact ⟨rfl, rfl⟩
set_option maxRecDepth 100000 in
set_option maxHeartbeats 4000000 in
theorem ct_X12_fault {l : Launch} {G : Gl} {h : Hp} {sv rem typ err lin why wha beh its siz att wro tol : Int32} {N : Nat → Int32} (ok : Ok G)  : CtR l G mX12_fault 1 [.ref (Ad G 20)] (mH G h (eMd G sv rem typ err lin why wha beh its siz att wro tol) N) (some (.int (if err = -1 then -4 else err))) (mH G h (eMd G sv rem typ err lin why wha beh its siz att wro tol) N) := by
  refine Ct.of (L := [(0, _)]) (by decide) (ble rfl) rfl ?_
  first | refine x_aload_n 0 dX12_fault_0 rfl rfl ?_ | refine x_aload_nN 0 dX12_fault_0 rfl rfl ?_
  refine x_get fX12_31 rfl dX12_fault_1 (by with_reducible repeat first | assumption | exact mH_0 ok | exact mH_1 | exact hset_s | refine mH_o (by first | assumption | exact nA ok (by omega) (by omega) (by omega)) (by first | assumption | exact nA ok (by omega) (by omega) (by omega)) ?_ | refine hget_n (by first | assumption | exact Ne.symm (by assumption) | exact nA ok (by omega) (by omega) (by omega)) ?_) (by rfl) ?_
  refine x_iconst (v := -1) dX12_fault_4 rfl ?_
  refine x_icmp_ne 13 dX12_fault_5 (by decide) (fun c5 => ?_) (fun c5 => ?_)
  · first | refine x_aload_n 0 dX12_fault_13 rfl rfl ?_ | refine x_aload_nN 0 dX12_fault_13 rfl rfl ?_
    refine x_get fX12_31 rfl dX12_fault_14 (by with_reducible repeat first | assumption | exact mH_0 ok | exact mH_1 | exact hset_s | refine mH_o (by first | assumption | exact nA ok (by omega) (by omega) (by omega)) (by first | assumption | exact nA ok (by omega) (by omega) (by omega)) ?_ | refine hget_n (by first | assumption | exact Ne.symm (by assumption) | exact nA ok (by omega) (by omega) (by omega)) ?_) (by rfl) ?_
    refine x_iret rfl dX12_fault_17 ?_
    refine ⟨congrArg (fun z => some (Value.int z)) ?_, rfl⟩
    (repeat' split) <;> first | rfl | contradiction | (simp_all; done) | (exfalso; simp only [Int32.lt_iff_toInt_lt, Int32.le_iff_toInt_le] at *; omega)
  · refine x_bipush (v := -4) dX12_fault_8 rfl ?_
    refine x_goto 17 dX12_fault_10 (by decide) ?_
    refine x_iret rfl dX12_fault_17 ?_
    refine ⟨congrArg (fun z => some (Value.int z)) ?_, rfl⟩
    (repeat' split) <;> first | rfl | contradiction | (simp_all; done) | (exfalso; simp only [Int32.lt_iff_toInt_lt, Int32.le_iff_toInt_le] at *; omega)
set_option maxRecDepth 100000 in
set_option maxHeartbeats 4000000 in
theorem ct_sound_in {l : Launch} {G : Gl} {h : Hp} {sv rem typ err lin why wha beh its siz att wro tol : Int32} {N : Nat → Int32} (ok : Ok G) {ns np no : Nat} (A : RowA N ns np no) {i : Nat} (hi : i < np)  : CtR l G mX12_sound 8 [.ref (Ad G 20), .int (nI i)] (mH G h (eMd G sv rem typ err lin why wha beh its siz att wro tol) N) (some (.int (ringK (kOf (N (60 + 8 * i))) (N (61 + 8 * i)) (N (62 + 8 * i)) (N (63 + 8 * i))))) (mH G h (eMd G sv rem typ err lin why wha beh its siz att wro tol) N) := by
  obtain ⟨a2, a3, a4, b2, b3, b4, AP, AO⟩ := A
  have P := AP i hi
  obtain ⟨hK, ⟨g, hg, hg1, hg9⟩, ⟨b, hb, hb2⟩, ⟨t, ht, ht9⟩, -⟩ := id P
  refine Ct.of (L := [(0, _), (1, _)]) (by decide) (ble rfl) rfl ?_
  first | refine x_aload_n 0 dX12_sound_0 rfl rfl ?_ | refine x_aload_nN 0 dX12_sound_0 rfl rfl ?_
  refine x_iload_n 1 dX12_sound_1 rfl rfl ?_
  refine x_cV1 (As := [.int _]) (ct_isPot_in ok a3 b3 hi) vX12_129 rfl (x_recv (by with_reducible repeat first | assumption | exact mH_0 ok | exact mH_1 | exact hset_s | refine mH_o (by first | assumption | exact nA ok (by omega) (by omega) (by omega)) (by first | assumption | exact nA ok (by omega) (by omega) (by omega)) ?_ | refine hget_n (by first | assumption | exact Ne.symm (by assumption) | exact nA ok (by omega) (by omega) (by omega)) ?_) rfl) rfl ⟨ble rfl, ble rfl⟩ (ble rfl) dX12_sound_2 rfl ?_
  refine x_if_eq 16 dX12_sound_5 (by decide) (fun z => by first | exact absurd z (show ¬ (1 : Int32) = 0 by decide) | exact absurd (show ¬ (1 : Int32) = 0 by decide) z) (fun _ => ?_)
  first | refine x_aload_n 0 dX12_sound_8 rfl rfl ?_ | refine x_aload_nN 0 dX12_sound_8 rfl rfl ?_
  refine x_iload_n 1 dX12_sound_9 rfl rfl ?_
  refine x_cV1 (As := [.int _]) (ct_X12_soundOf ok (by omega) (by assumption)) vX12_194 rfl (x_recv (by with_reducible repeat first | assumption | exact mH_0 ok | exact mH_1 | exact hset_s | refine mH_o (by first | assumption | exact nA ok (by omega) (by omega) (by omega)) (by first | assumption | exact nA ok (by omega) (by omega) (by omega)) ?_ | refine hget_n (by first | assumption | exact Ne.symm (by assumption) | exact nA ok (by omega) (by omega) (by omega)) ?_) rfl) rfl ⟨ble rfl, ble rfl⟩ (ble rfl) dX12_sound_10 rfl ?_
  refine x_goto 17 dX12_sound_13 (by decide) ?_
  refine x_iret rfl dX12_sound_17 ?_
  exact ⟨rfl, rfl⟩
set_option maxRecDepth 100000 in
set_option maxHeartbeats 4000000 in
theorem ct_sound_out {l : Launch} {G : Gl} {h : Hp} {sv rem typ err lin why wha beh its siz att wro tol : Int32} {N : Nat → Int32} (ok : Ok G) {ns np no : Nat} (A : RowA N ns np no) (x : Int32) (hx : ¬ (0 ≤ x ∧ x < N 3)) : CtR l G mX12_sound 8 [.ref (Ad G 20), .int x] (mH G h (eMd G sv rem typ err lin why wha beh its siz att wro tol) N) (some (.int (-1))) (mH G h (eMd G sv rem typ err lin why wha beh its siz att wro tol) N) := by
  obtain ⟨a2, a3, a4, b2, b3, b4, AP, AO⟩ := A
  refine Ct.of (L := [(0, _), (1, _)]) (by decide) (ble rfl) rfl ?_
  first | refine x_aload_n 0 dX12_sound_0 rfl rfl ?_ | refine x_aload_nN 0 dX12_sound_0 rfl rfl ?_
  refine x_iload_n 1 dX12_sound_1 rfl rfl ?_
  refine x_cV1 (As := [.int _]) (ct_isPot_out ok a3 b3 hx) vX12_129 rfl (x_recv (by with_reducible repeat first | assumption | exact mH_0 ok | exact mH_1 | exact hset_s | refine mH_o (by first | assumption | exact nA ok (by omega) (by omega) (by omega)) (by first | assumption | exact nA ok (by omega) (by omega) (by omega)) ?_ | refine hget_n (by first | assumption | exact Ne.symm (by assumption) | exact nA ok (by omega) (by omega) (by omega)) ?_) rfl) rfl ⟨ble rfl, ble rfl⟩ (ble rfl) dX12_sound_2 rfl ?_
  refine x_if_eq 16 dX12_sound_5 (by decide) (fun _ => ?_) (fun z => by first | exact absurd (rfl) z | exact absurd z (rfl))
  refine x_iconst (v := -1) dX12_sound_16 rfl ?_
  refine x_iret rfl dX12_sound_17 ?_
  exact ⟨rfl, rfl⟩
set_option maxRecDepth 100000 in
set_option maxHeartbeats 4000000 in
theorem ct_mealsTo_in {l : Launch} {G : Gl} {h : Hp} {sv rem typ err lin why wha beh its siz att wro tol : Int32} {N : Nat → Int32} (ok : Ok G) {ns np no : Nat} (A : RowA N ns np no) {i : Nat} (hi : i < np)  : CtR l G mX12_mealsTo 8 [.ref (Ad G 20), .int (nI i)] (mH G h (eMd G sv rem typ err lin why wha beh its siz att wro tol) N) (some (.int (leftK (kOf (N (60 + 8 * i))) (N (63 + 8 * i)) (N (65 + 8 * i))))) (mH G h (eMd G sv rem typ err lin why wha beh its siz att wro tol) N) := by
  obtain ⟨a2, a3, a4, b2, b3, b4, AP, AO⟩ := A
  have P := AP i hi
  obtain ⟨hK, ⟨g, hg, hg1, hg9⟩, ⟨b, hb, hb2⟩, ⟨t, ht, ht9⟩, -⟩ := id P
  refine Ct.of (L := [(0, _), (1, _)]) (by decide) (ble rfl) rfl ?_
  first | refine x_aload_n 0 dX12_mealsTo_0 rfl rfl ?_ | refine x_aload_nN 0 dX12_mealsTo_0 rfl rfl ?_
  refine x_iload_n 1 dX12_mealsTo_1 rfl rfl ?_
  refine x_cV1 (As := [.int _]) (ct_isPot_in ok a3 b3 hi) vX12_129 rfl (x_recv (by with_reducible repeat first | assumption | exact mH_0 ok | exact mH_1 | exact hset_s | refine mH_o (by first | assumption | exact nA ok (by omega) (by omega) (by omega)) (by first | assumption | exact nA ok (by omega) (by omega) (by omega)) ?_ | refine hget_n (by first | assumption | exact Ne.symm (by assumption) | exact nA ok (by omega) (by omega) (by omega)) ?_) rfl) rfl ⟨ble rfl, ble rfl⟩ (ble rfl) dX12_mealsTo_2 rfl ?_
  refine x_if_ne 10 dX12_mealsTo_5 (by decide) (fun _ => ?_) (fun z => by first | exact absurd (show ¬ (1 : Int32) = 0 by decide) z | exact absurd z (show ¬ (1 : Int32) = 0 by decide))
  first | refine x_aload_n 0 dX12_mealsTo_10 rfl rfl ?_ | refine x_aload_nN 0 dX12_mealsTo_10 rfl rfl ?_
  refine x_iload_n 1 dX12_mealsTo_11 rfl rfl ?_
  refine x_iconst (v := 3) dX12_mealsTo_12 rfl ?_
  refine x_cV1 (As := [.int _, .int _]) (ct_X12_of_3 ok (by omega)) vX12_101 rfl (x_recv (by with_reducible repeat first | assumption | exact mH_0 ok | exact mH_1 | exact hset_s | refine mH_o (by first | assumption | exact nA ok (by omega) (by omega) (by omega)) (by first | assumption | exact nA ok (by omega) (by omega) (by omega)) ?_ | refine hget_n (by first | assumption | exact Ne.symm (by assumption) | exact nA ok (by omega) (by omega) (by omega)) ?_) rfl) rfl ⟨ble rfl, ble rfl⟩ (ble rfl) dX12_mealsTo_13 rfl ?_
  refine x_if_ne 23 dX12_mealsTo_16 (by decide) (fun c16 => ?_) (fun c16 => ?_)
  · first | refine x_aload_n 0 dX12_mealsTo_23 rfl rfl ?_ | refine x_aload_nN 0 dX12_mealsTo_23 rfl rfl ?_
    refine x_iload_n 1 dX12_mealsTo_24 rfl rfl ?_
    refine x_iconst (v := 3) dX12_mealsTo_25 rfl ?_
    refine x_cV1 (As := [.int _, .int _]) (ct_X12_of_3 ok (by omega)) vX12_101 rfl (x_recv (by with_reducible repeat first | assumption | exact mH_0 ok | exact mH_1 | exact hset_s | refine mH_o (by first | assumption | exact nA ok (by omega) (by omega) (by omega)) (by first | assumption | exact nA ok (by omega) (by omega) (by omega)) ?_ | refine hget_n (by first | assumption | exact Ne.symm (by assumption) | exact nA ok (by omega) (by omega) (by omega)) ?_) rfl) rfl ⟨ble rfl, ble rfl⟩ (ble rfl) dX12_mealsTo_26 rfl ?_
    first | refine x_aload_n 0 dX12_mealsTo_29 rfl rfl ?_ | refine x_aload_nN 0 dX12_mealsTo_29 rfl rfl ?_
    refine x_iload_n 1 dX12_mealsTo_30 rfl rfl ?_
    refine x_iconst (v := 0) dX12_mealsTo_31 rfl ?_
    refine x_cV1 (As := [.int _, .int _]) (ct_X12_of_0 ok (by omega)) vX12_101 rfl (x_recv (by with_reducible repeat first | assumption | exact mH_0 ok | exact mH_1 | exact hset_s | refine mH_o (by first | assumption | exact nA ok (by omega) (by omega) (by omega)) (by first | assumption | exact nA ok (by omega) (by omega) (by omega)) ?_ | refine hget_n (by first | assumption | exact Ne.symm (by assumption) | exact nA ok (by omega) (by omega) (by omega)) ?_) rfl) rfl ⟨ble rfl, ble rfl⟩ (ble rfl) dX12_mealsTo_32 rfl ?_
    refine x_cS1 (As := [.int _]) (ct_X12_mealsOf (by assumption)) vX12_153 rfl rfl ⟨ble rfl, ble rfl⟩ (ble rfl) dX12_mealsTo_35 rfl ?_
    refine x_imul dX12_mealsTo_38 ?_
    first | refine x_aload_n 0 dX12_mealsTo_39 rfl rfl ?_ | refine x_aload_nN 0 dX12_mealsTo_39 rfl rfl ?_
    refine x_iload_n 1 dX12_mealsTo_40 rfl rfl ?_
    refine x_iconst (v := 5) dX12_mealsTo_41 rfl ?_
    refine x_cV1 (As := [.int _, .int _]) (ct_X12_of_5 ok (by omega)) vX12_101 rfl (x_recv (by with_reducible repeat first | assumption | exact mH_0 ok | exact mH_1 | exact hset_s | refine mH_o (by first | assumption | exact nA ok (by omega) (by omega) (by omega)) (by first | assumption | exact nA ok (by omega) (by omega) (by omega)) ?_ | refine hget_n (by first | assumption | exact Ne.symm (by assumption) | exact nA ok (by omega) (by omega) (by omega)) ?_) rfl) rfl ⟨ble rfl, ble rfl⟩ (ble rfl) dX12_mealsTo_42 rfl ?_
    refine x_isub dX12_mealsTo_45 ?_
    refine x_iret rfl dX12_mealsTo_46 ?_
    refine ⟨congrArg (fun z => some (Value.int z)) ?_, rfl⟩
    unfold leftK
    (repeat' split) <;> first | rfl | contradiction | (simp_all; done) | (exfalso; simp only [Int32.lt_iff_toInt_lt, Int32.le_iff_toInt_le] at *; omega)
  · refine x_iconst (v := 0) dX12_mealsTo_19 rfl ?_
    refine x_goto 46 dX12_mealsTo_20 (by decide) ?_
    refine x_iret rfl dX12_mealsTo_46 ?_
    refine ⟨congrArg (fun z => some (Value.int z)) ?_, rfl⟩
    unfold leftK
    (repeat' split) <;> first | rfl | contradiction | (simp_all; done) | (exfalso; simp only [Int32.lt_iff_toInt_lt, Int32.le_iff_toInt_le] at *; omega)
set_option maxRecDepth 100000 in
set_option maxHeartbeats 4000000 in
theorem ct_mealsTo_out {l : Launch} {G : Gl} {h : Hp} {sv rem typ err lin why wha beh its siz att wro tol : Int32} {N : Nat → Int32} (ok : Ok G) {ns np no : Nat} (A : RowA N ns np no) (x : Int32) (hx : ¬ (0 ≤ x ∧ x < N 3)) : CtR l G mX12_mealsTo 8 [.ref (Ad G 20), .int x] (mH G h (eMd G sv rem typ err lin why wha beh its siz att wro tol) N) (some (.int (-1))) (mH G h (eMd G sv rem typ err lin why wha beh its siz att wro tol) N) := by
  obtain ⟨a2, a3, a4, b2, b3, b4, AP, AO⟩ := A
  refine Ct.of (L := [(0, _), (1, _)]) (by decide) (ble rfl) rfl ?_
  first | refine x_aload_n 0 dX12_mealsTo_0 rfl rfl ?_ | refine x_aload_nN 0 dX12_mealsTo_0 rfl rfl ?_
  refine x_iload_n 1 dX12_mealsTo_1 rfl rfl ?_
  refine x_cV1 (As := [.int _]) (ct_isPot_out ok a3 b3 hx) vX12_129 rfl (x_recv (by with_reducible repeat first | assumption | exact mH_0 ok | exact mH_1 | exact hset_s | refine mH_o (by first | assumption | exact nA ok (by omega) (by omega) (by omega)) (by first | assumption | exact nA ok (by omega) (by omega) (by omega)) ?_ | refine hget_n (by first | assumption | exact Ne.symm (by assumption) | exact nA ok (by omega) (by omega) (by omega)) ?_) rfl) rfl ⟨ble rfl, ble rfl⟩ (ble rfl) dX12_mealsTo_2 rfl ?_
  refine x_if_ne 10 dX12_mealsTo_5 (by decide) (fun z => by first | exact absurd z (fun z => z rfl) | exact absurd (fun z => z rfl) z) (fun _ => ?_)
  refine x_iconst (v := -1) dX12_mealsTo_8 rfl ?_
  refine x_iret rfl dX12_mealsTo_9 ?_
  exact ⟨rfl, rfl⟩
set_option maxRecDepth 100000 in
set_option maxHeartbeats 4000000 in
theorem ct_barsFor_in {l : Launch} {G : Gl} {h : Hp} {sv rem typ err lin why wha beh its siz att wro tol : Int32} {N : Nat → Int32} (ok : Ok G) {ns np no : Nat} (A : RowA N ns np no) {i : Nat} (hi : i < np) (y : Int32) : CtR l G mX12_barsFor 8 [.ref (Ad G 20), .int (nI i), .int y] (mH G h (eMd G sv rem typ err lin why wha beh its siz att wro tol) N) (some (.int (if y < 1 ∨ 9 < y then -2 else (kArea (kOf (N (60 + 8 * i))) * y + 3) / 4))) (mH G h (eMd G sv rem typ err lin why wha beh its siz att wro tol) N) := by
  obtain ⟨a2, a3, a4, b2, b3, b4, AP, AO⟩ := A
  have P := AP i hi
  obtain ⟨hK, ⟨g, hg, hg1, hg9⟩, ⟨b, hb, hb2⟩, ⟨t, ht, ht9⟩, -⟩ := id P
  refine Ct.of (L := [(0, _), (1, _), (2, _)]) (by decide) (ble rfl) rfl ?_
  first | refine x_aload_n 0 dX12_barsFor_0 rfl rfl ?_ | refine x_aload_nN 0 dX12_barsFor_0 rfl rfl ?_
  refine x_iload_n 1 dX12_barsFor_1 rfl rfl ?_
  refine x_cV1 (As := [.int _]) (ct_isPot_in ok a3 b3 hi) vX12_129 rfl (x_recv (by with_reducible repeat first | assumption | exact mH_0 ok | exact mH_1 | exact hset_s | refine mH_o (by first | assumption | exact nA ok (by omega) (by omega) (by omega)) (by first | assumption | exact nA ok (by omega) (by omega) (by omega)) ?_ | refine hget_n (by first | assumption | exact Ne.symm (by assumption) | exact nA ok (by omega) (by omega) (by omega)) ?_) rfl) rfl ⟨ble rfl, ble rfl⟩ (ble rfl) dX12_barsFor_2 rfl ?_
  refine x_if_ne 10 dX12_barsFor_5 (by decide) (fun _ => ?_) (fun z => by first | exact absurd (show ¬ (1 : Int32) = 0 by decide) z | exact absurd z (show ¬ (1 : Int32) = 0 by decide))
  refine x_iload_n 2 dX12_barsFor_10 rfl rfl ?_
  refine x_iconst (v := 1) dX12_barsFor_11 rfl ?_
  refine x_bipush (v := 9) dX12_barsFor_12 rfl ?_
  refine x_cS1 (As := [.int _, .int _, .int _]) (ct_X12_isIn _ _ _) vX12_74 rfl rfl ⟨ble rfl, ble rfl⟩ (ble rfl) dX12_barsFor_14 rfl ?_
  refine x_if_eq 33 dX12_barsFor_17 (by decide) (fun c17 => ?_) (fun c17 => ?_)
  · refine x_bipush (v := -2) dX12_barsFor_33 rfl ?_
    refine x_iret rfl dX12_barsFor_35 ?_
    refine ⟨congrArg (fun z => some (Value.int z)) ?_, rfl⟩
    simp only [inI_0] at *
    (repeat' split) <;> first | rfl | contradiction | (simp_all; done) | (exfalso; simp only [Int32.lt_iff_toInt_lt, Int32.le_iff_toInt_le] at *; omega)
  · first | refine x_aload_n 0 dX12_barsFor_20 rfl rfl ?_ | refine x_aload_nN 0 dX12_barsFor_20 rfl rfl ?_
    refine x_iload_n 1 dX12_barsFor_21 rfl rfl ?_
    refine x_iconst (v := 0) dX12_barsFor_22 rfl ?_
    refine x_cV1 (As := [.int _, .int _]) (ct_X12_of_0 ok (by omega)) vX12_101 rfl (x_recv (by with_reducible repeat first | assumption | exact mH_0 ok | exact mH_1 | exact hset_s | refine mH_o (by first | assumption | exact nA ok (by omega) (by omega) (by omega)) (by first | assumption | exact nA ok (by omega) (by omega) (by omega)) ?_ | refine hget_n (by first | assumption | exact Ne.symm (by assumption) | exact nA ok (by omega) (by omega) (by omega)) ?_) rfl) rfl ⟨ble rfl, ble rfl⟩ (ble rfl) dX12_barsFor_23 rfl ?_
    refine x_iload_n 2 dX12_barsFor_26 rfl rfl ?_
    refine x_cS1 (As := [.int _, .int _]) (ct_X12_barsBy (by assumption) _) vX12_144 rfl rfl ⟨ble rfl, ble rfl⟩ (ble rfl) dX12_barsFor_27 rfl ?_
    refine x_goto 35 dX12_barsFor_30 (by decide) ?_
    refine x_iret rfl dX12_barsFor_35 ?_
    refine ⟨congrArg (fun z => some (Value.int z)) ?_, rfl⟩
    simp only [inI_0] at *
    (repeat' split) <;> first | rfl | contradiction | (simp_all; done) | (exfalso; simp only [Int32.lt_iff_toInt_lt, Int32.le_iff_toInt_le] at *; omega)
set_option maxRecDepth 100000 in
set_option maxHeartbeats 4000000 in
theorem ct_barsFor_out {l : Launch} {G : Gl} {h : Hp} {sv rem typ err lin why wha beh its siz att wro tol : Int32} {N : Nat → Int32} (ok : Ok G) {ns np no : Nat} (A : RowA N ns np no) (x : Int32) (hx : ¬ (0 ≤ x ∧ x < N 3)) (y : Int32) : CtR l G mX12_barsFor 8 [.ref (Ad G 20), .int x, .int y] (mH G h (eMd G sv rem typ err lin why wha beh its siz att wro tol) N) (some (.int (-1))) (mH G h (eMd G sv rem typ err lin why wha beh its siz att wro tol) N) := by
  obtain ⟨a2, a3, a4, b2, b3, b4, AP, AO⟩ := A
  refine Ct.of (L := [(0, _), (1, _), (2, _)]) (by decide) (ble rfl) rfl ?_
  first | refine x_aload_n 0 dX12_barsFor_0 rfl rfl ?_ | refine x_aload_nN 0 dX12_barsFor_0 rfl rfl ?_
  refine x_iload_n 1 dX12_barsFor_1 rfl rfl ?_
  refine x_cV1 (As := [.int _]) (ct_isPot_out ok a3 b3 hx) vX12_129 rfl (x_recv (by with_reducible repeat first | assumption | exact mH_0 ok | exact mH_1 | exact hset_s | refine mH_o (by first | assumption | exact nA ok (by omega) (by omega) (by omega)) (by first | assumption | exact nA ok (by omega) (by omega) (by omega)) ?_ | refine hget_n (by first | assumption | exact Ne.symm (by assumption) | exact nA ok (by omega) (by omega) (by omega)) ?_) rfl) rfl ⟨ble rfl, ble rfl⟩ (ble rfl) dX12_barsFor_2 rfl ?_
  refine x_if_ne 10 dX12_barsFor_5 (by decide) (fun z => by first | exact absurd z (fun z => z rfl) | exact absurd (fun z => z rfl) z) (fun _ => ?_)
  refine x_iconst (v := -1) dX12_barsFor_8 rfl ?_
  refine x_iret rfl dX12_barsFor_9 ?_
  exact ⟨rfl, rfl⟩
set_option maxRecDepth 100000 in
set_option maxHeartbeats 4000000 in
theorem ct_blowsTo_in {l : Launch} {G : Gl} {h : Hp} {sv rem typ err lin why wha beh its siz att wro tol : Int32} {N : Nat → Int32} (ok : Ok G) {ns np no : Nat} (A : RowA N ns np no) {i : Nat} (hi : i < np) (y : Int32) : CtR l G mX12_blowsTo 8 [.ref (Ad G 20), .int (nI i), .int y] (mH G h (eMd G sv rem typ err lin why wha beh its siz att wro tol) N) (some (.int (if y = 0 then mx (kSm (kOf (N (60 + 8 * i))) - N (62 + 8 * i)) 0 else if y = 1 then mx (crackK (kOf (N (60 + 8 * i))) (N (61 + 8 * i)) - N (62 + 8 * i)) 0 else -2))) (mH G h (eMd G sv rem typ err lin why wha beh its siz att wro tol) N) := by
  obtain ⟨a2, a3, a4, b2, b3, b4, AP, AO⟩ := A
  have P := AP i hi
  obtain ⟨hK, ⟨g, hg, hg1, hg9⟩, ⟨b, hb, hb2⟩, ⟨t, ht, ht9⟩, -⟩ := id P
  refine Ct.of (L := [(0, _), (1, _), (2, _)]) (by decide) (ble rfl) rfl ?_
  first | refine x_aload_n 0 dX12_blowsTo_0 rfl rfl ?_ | refine x_aload_nN 0 dX12_blowsTo_0 rfl rfl ?_
  refine x_iload_n 1 dX12_blowsTo_1 rfl rfl ?_
  refine x_cV1 (As := [.int _]) (ct_isPot_in ok a3 b3 hi) vX12_129 rfl (x_recv (by with_reducible repeat first | assumption | exact mH_0 ok | exact mH_1 | exact hset_s | refine mH_o (by first | assumption | exact nA ok (by omega) (by omega) (by omega)) (by first | assumption | exact nA ok (by omega) (by omega) (by omega)) ?_ | refine hget_n (by first | assumption | exact Ne.symm (by assumption) | exact nA ok (by omega) (by omega) (by omega)) ?_) rfl) rfl ⟨ble rfl, ble rfl⟩ (ble rfl) dX12_blowsTo_2 rfl ?_
  refine x_if_ne 10 dX12_blowsTo_5 (by decide) (fun _ => ?_) (fun z => by first | exact absurd (show ¬ (1 : Int32) = 0 by decide) z | exact absurd z (show ¬ (1 : Int32) = 0 by decide))
  refine x_iload_n 2 dX12_blowsTo_10 rfl rfl ?_
  refine x_iconst (v := 0) dX12_blowsTo_11 rfl ?_
  refine x_iconst (v := 1) dX12_blowsTo_12 rfl ?_
  refine x_cS1 (As := [.int _, .int _, .int _]) (ct_X12_isIn _ _ _) vX12_74 rfl rfl ⟨ble rfl, ble rfl⟩ (ble rfl) dX12_blowsTo_13 rfl ?_
  refine x_if_ne 22 dX12_blowsTo_16 (by decide) (fun c16 => ?_) (fun c16 => ?_)
  · refine x_iload_n 2 dX12_blowsTo_22 rfl rfl ?_
    refine x_if_ne 34 dX12_blowsTo_23 (by decide) (fun c23 => ?_) (fun c23 => ?_)
    · refine x_iconst (v := 0) dX12_blowsTo_34 rfl ?_
      refine x_iconst (v := 2) dX12_blowsTo_35 rfl ?_
      first | refine x_aload_n 0 dX12_blowsTo_36 rfl rfl ?_ | refine x_aload_nN 0 dX12_blowsTo_36 rfl rfl ?_
      refine x_iload_n 1 dX12_blowsTo_37 rfl rfl ?_
      refine x_iconst (v := 0) dX12_blowsTo_38 rfl ?_
      refine x_cV1 (As := [.int _, .int _]) (ct_X12_of_0 ok (by omega)) vX12_101 rfl (x_recv (by with_reducible repeat first | assumption | exact mH_0 ok | exact mH_1 | exact hset_s | refine mH_o (by first | assumption | exact nA ok (by omega) (by omega) (by omega)) (by first | assumption | exact nA ok (by omega) (by omega) (by omega)) ?_ | refine hget_n (by first | assumption | exact Ne.symm (by assumption) | exact nA ok (by omega) (by omega) (by omega)) ?_) rfl) rfl ⟨ble rfl, ble rfl⟩ (ble rfl) dX12_blowsTo_39 rfl ?_
      refine x_cS1 (As := [.int _]) (ct_X12_areaOf (by assumption)) vX12_105 rfl rfl ⟨ble rfl, ble rfl⟩ (ble rfl) dX12_blowsTo_42 rfl ?_
      refine x_imul dX12_blowsTo_45 ?_
      refine x_bipush (v := 6) dX12_blowsTo_46 rfl ?_
      first | refine x_aload_n 0 dX12_blowsTo_48 rfl rfl ?_ | refine x_aload_nN 0 dX12_blowsTo_48 rfl rfl ?_
      refine x_iload_n 1 dX12_blowsTo_49 rfl rfl ?_
      refine x_iconst (v := 1) dX12_blowsTo_50 rfl ?_
      refine x_cV1 (As := [.int _, .int _]) (ct_X12_of_1 ok (by omega)) vX12_101 rfl (x_recv (by with_reducible repeat first | assumption | exact mH_0 ok | exact mH_1 | exact hset_s | refine mH_o (by first | assumption | exact nA ok (by omega) (by omega) (by omega)) (by first | assumption | exact nA ok (by omega) (by omega) (by omega)) ?_ | refine hget_n (by first | assumption | exact Ne.symm (by assumption) | exact nA ok (by omega) (by omega) (by omega)) ?_) rfl) rfl ⟨ble rfl, ble rfl⟩ (ble rfl) dX12_blowsTo_51 rfl ?_
      refine x_imul dX12_blowsTo_54 ?_
      refine x_iadd dX12_blowsTo_55 ?_
      first | refine x_aload_n 0 dX12_blowsTo_56 rfl rfl ?_ | refine x_aload_nN 0 dX12_blowsTo_56 rfl rfl ?_
      refine x_iload_n 1 dX12_blowsTo_57 rfl rfl ?_
      refine x_iconst (v := 2) dX12_blowsTo_58 rfl ?_
      refine x_cV1 (As := [.int _, .int _]) (ct_X12_of_2 ok (by omega)) vX12_101 rfl (x_recv (by with_reducible repeat first | assumption | exact mH_0 ok | exact mH_1 | exact hset_s | refine mH_o (by first | assumption | exact nA ok (by omega) (by omega) (by omega)) (by first | assumption | exact nA ok (by omega) (by omega) (by omega)) ?_ | refine hget_n (by first | assumption | exact Ne.symm (by assumption) | exact nA ok (by omega) (by omega) (by omega)) ?_) rfl) rfl ⟨ble rfl, ble rfl⟩ (ble rfl) dX12_blowsTo_59 rfl ?_
      refine x_isub dX12_blowsTo_62 ?_
      refine x_mmax rfl wX12_108 wMmax2 wMath3 wMmax4 (ble rfl) (ble rfl) dX12_blowsTo_63 ?_
      refine x_iret rfl dX12_blowsTo_66 ?_
      refine ⟨congrArg (fun z => some (Value.int z)) ?_, rfl⟩
      have t1 : Int32.toInt 1 = 1 := rfl
      simp only [inI_0] at *
      try rw [mx0, kA_e _ hK.2]
      unfold crackK
      (repeat' split) <;> first | rfl | contradiction | (exfalso; simp only [Int32.lt_iff_toInt_lt, Int32.le_iff_toInt_le, ← Int32.toInt_inj, Int32.toInt_zero, t1] at *; omega) | (simp_all; done)
    · first | refine x_aload_n 0 dX12_blowsTo_26 rfl rfl ?_ | refine x_aload_nN 0 dX12_blowsTo_26 rfl rfl ?_
      refine x_iload_n 1 dX12_blowsTo_27 rfl rfl ?_
      refine x_cV1 (As := [.int _]) (ct_X12_missingBlows ok (by omega) (by assumption)) vX12_147 rfl (x_recv (by with_reducible repeat first | assumption | exact mH_0 ok | exact mH_1 | exact hset_s | refine mH_o (by first | assumption | exact nA ok (by omega) (by omega) (by omega)) (by first | assumption | exact nA ok (by omega) (by omega) (by omega)) ?_ | refine hget_n (by first | assumption | exact Ne.symm (by assumption) | exact nA ok (by omega) (by omega) (by omega)) ?_) rfl) rfl ⟨ble rfl, ble rfl⟩ (ble rfl) dX12_blowsTo_28 rfl ?_
      refine x_goto 66 dX12_blowsTo_31 (by decide) ?_
      refine x_iret rfl dX12_blowsTo_66 ?_
      refine ⟨congrArg (fun z => some (Value.int z)) ?_, rfl⟩
      have t1 : Int32.toInt 1 = 1 := rfl
      simp only [inI_0] at *
      try rw [mx0, kA_e _ hK.2]
      unfold crackK
      (repeat' split) <;> first | rfl | contradiction | (exfalso; simp only [Int32.lt_iff_toInt_lt, Int32.le_iff_toInt_le, ← Int32.toInt_inj, Int32.toInt_zero, t1] at *; omega) | (simp_all; done)
  · refine x_bipush (v := -2) dX12_blowsTo_19 rfl ?_
    refine x_iret rfl dX12_blowsTo_21 ?_
    refine ⟨congrArg (fun z => some (Value.int z)) ?_, rfl⟩
    have t1 : Int32.toInt 1 = 1 := rfl
    simp only [inI_0] at *
    try rw [mx0, kA_e _ hK.2]
    unfold crackK
    (repeat' split) <;> first | rfl | contradiction | (exfalso; simp only [Int32.lt_iff_toInt_lt, Int32.le_iff_toInt_le, ← Int32.toInt_inj, Int32.toInt_zero, t1] at *; omega) | (simp_all; done)
set_option maxRecDepth 100000 in
set_option maxHeartbeats 4000000 in
theorem ct_blowsTo_out {l : Launch} {G : Gl} {h : Hp} {sv rem typ err lin why wha beh its siz att wro tol : Int32} {N : Nat → Int32} (ok : Ok G) {ns np no : Nat} (A : RowA N ns np no) (x : Int32) (hx : ¬ (0 ≤ x ∧ x < N 3)) (y : Int32) : CtR l G mX12_blowsTo 8 [.ref (Ad G 20), .int x, .int y] (mH G h (eMd G sv rem typ err lin why wha beh its siz att wro tol) N) (some (.int (-1))) (mH G h (eMd G sv rem typ err lin why wha beh its siz att wro tol) N) := by
  obtain ⟨a2, a3, a4, b2, b3, b4, AP, AO⟩ := A
  refine Ct.of (L := [(0, _), (1, _), (2, _)]) (by decide) (ble rfl) rfl ?_
  first | refine x_aload_n 0 dX12_blowsTo_0 rfl rfl ?_ | refine x_aload_nN 0 dX12_blowsTo_0 rfl rfl ?_
  refine x_iload_n 1 dX12_blowsTo_1 rfl rfl ?_
  refine x_cV1 (As := [.int _]) (ct_isPot_out ok a3 b3 hx) vX12_129 rfl (x_recv (by with_reducible repeat first | assumption | exact mH_0 ok | exact mH_1 | exact hset_s | refine mH_o (by first | assumption | exact nA ok (by omega) (by omega) (by omega)) (by first | assumption | exact nA ok (by omega) (by omega) (by omega)) ?_ | refine hget_n (by first | assumption | exact Ne.symm (by assumption) | exact nA ok (by omega) (by omega) (by omega)) ?_) rfl) rfl ⟨ble rfl, ble rfl⟩ (ble rfl) dX12_blowsTo_2 rfl ?_
  refine x_if_ne 10 dX12_blowsTo_5 (by decide) (fun z => by first | exact absurd z (fun z => z rfl) | exact absurd (fun z => z rfl) z) (fun _ => ?_)
  refine x_iconst (v := -1) dX12_blowsTo_8 rfl ?_
  refine x_iret rfl dX12_blowsTo_9 ?_
  exact ⟨rfl, rfl⟩
theorem mn9 {t : Nat} {z : Int32} (ht : t ≤ 9) (hz : ¬ z < 0) (hz9 : ¬ 9 < z) : (if nI t + z < 9 then nI t + z else (9 : Int32)) = mn (nI t + z) 9 ∧ ∃ c, mn (nI t + z) 9 = nI c ∧ c ≤ 9 := by
  obtain ⟨w, hw, rfl⟩ := nI_of hz
  have hw9 : w ≤ 9 := Nat.not_lt.mp fun q => hz9 (show nI 9 < nI w from nI_lt q hw)
  have key : ∀ t, t < 10 → ∀ w, w < 10 → (if nI t + nI w < 9 then nI t + nI w else (9 : Int32)) = mn (nI t + nI w) 9 ∧ ∃ c, c < 10 ∧ mn (nI t + nI w) 9 = nI c := by decide +kernel
  obtain ⟨k1, c, k2, k3⟩ := key t (by omega) w (by omega)
  exact ⟨k1, c, k3, by omega⟩
set_option maxRecDepth 100000 in
set_option maxHeartbeats 4000000 in
theorem ct_wouldSound_in {l : Launch} {G : Gl} {h : Hp} {sv rem typ err lin why wha beh its siz att wro tol : Int32} {N : Nat → Int32} (ok : Ok G) {ns np no : Nat} (A : RowA N ns np no) {i : Nat} (hi : i < np) (y z : Int32) : CtR l G mX12_wouldSound 8 [.ref (Ad G 20), .int (nI i), .int y, .int z] (mH G h (eMd G sv rem typ err lin why wha beh its siz att wro tol) N) (some (.int (if y < 0 ∨ 99 < y ∨ z < 0 ∨ 9 < z then -2 else ringK (kOf (N (60 + 8 * i))) (N (61 + 8 * i)) (N (62 + 8 * i) + y) (mn (N (63 + 8 * i) + z) 9)))) (mH G h (eMd G sv rem typ err lin why wha beh its siz att wro tol) N) := by
  obtain ⟨a2, a3, a4, b2, b3, b4, AP, AO⟩ := A
  have P := AP i hi
  obtain ⟨hK, ⟨g, hg, hg1, hg9⟩, ⟨b, hb, hb2⟩, ⟨t, ht, ht9⟩, -⟩ := id P
  refine Ct.of (L := [(0, _), (1, _), (2, _), (3, _)]) (by decide) (ble rfl) rfl ?_
  first | refine x_aload_n 0 dX12_wouldSound_0 rfl rfl ?_ | refine x_aload_nN 0 dX12_wouldSound_0 rfl rfl ?_
  refine x_iload_n 1 dX12_wouldSound_1 rfl rfl ?_
  refine x_cV1 (As := [.int _]) (ct_isPot_in ok a3 b3 hi) vX12_129 rfl (x_recv (by with_reducible repeat first | assumption | exact mH_0 ok | exact mH_1 | exact hset_s | refine mH_o (by first | assumption | exact nA ok (by omega) (by omega) (by omega)) (by first | assumption | exact nA ok (by omega) (by omega) (by omega)) ?_ | refine hget_n (by first | assumption | exact Ne.symm (by assumption) | exact nA ok (by omega) (by omega) (by omega)) ?_) rfl) rfl ⟨ble rfl, ble rfl⟩ (ble rfl) dX12_wouldSound_2 rfl ?_
  refine x_if_ne 10 dX12_wouldSound_5 (by decide) (fun _ => ?_) (fun z => by first | exact absurd (show ¬ (1 : Int32) = 0 by decide) z | exact absurd z (show ¬ (1 : Int32) = 0 by decide))
  refine x_iload_n 2 dX12_wouldSound_10 rfl rfl ?_
  refine x_iconst (v := 0) dX12_wouldSound_11 rfl ?_
  refine x_bipush (v := 99) dX12_wouldSound_12 rfl ?_
  refine x_cS1 (As := [.int _, .int _, .int _]) (ct_X12_isIn _ _ _) vX12_74 rfl rfl ⟨ble rfl, ble rfl⟩ (ble rfl) dX12_wouldSound_14 rfl ?_
  refine x_if_eq 30 dX12_wouldSound_17 (by decide) (fun c17 => ?_) (fun c17 => ?_)
  · refine x_bipush (v := -2) dX12_wouldSound_30 rfl ?_
    refine x_iret rfl dX12_wouldSound_32 ?_
    refine ⟨congrArg (fun z => some (Value.int z)) ?_, rfl⟩
    simp only [inI_0] at *
    (repeat' split) <;> first | rfl | contradiction | (simp_all; done) | (exfalso; simp only [Int32.lt_iff_toInt_lt, Int32.le_iff_toInt_le] at *; omega)
  · refine x_iload_n 3 dX12_wouldSound_20 rfl rfl ?_
    refine x_iconst (v := 0) dX12_wouldSound_21 rfl ?_
    refine x_bipush (v := 9) dX12_wouldSound_22 rfl ?_
    refine x_cS1 (As := [.int _, .int _, .int _]) (ct_X12_isIn _ _ _) vX12_74 rfl rfl ⟨ble rfl, ble rfl⟩ (ble rfl) dX12_wouldSound_24 rfl ?_
    refine x_if_ne 33 dX12_wouldSound_27 (by decide) (fun c27 => ?_) (fun c27 => ?_)
    · first | refine x_aload_n 0 dX12_wouldSound_33 rfl rfl ?_ | refine x_aload_nN 0 dX12_wouldSound_33 rfl rfl ?_
      refine x_iload_n 1 dX12_wouldSound_34 rfl rfl ?_
      refine x_iconst (v := 0) dX12_wouldSound_35 rfl ?_
      refine x_cV1 (As := [.int _, .int _]) (ct_X12_of_0 ok (by omega)) vX12_101 rfl (x_recv (by with_reducible repeat first | assumption | exact mH_0 ok | exact mH_1 | exact hset_s | refine mH_o (by first | assumption | exact nA ok (by omega) (by omega) (by omega)) (by first | assumption | exact nA ok (by omega) (by omega) (by omega)) ?_ | refine hget_n (by first | assumption | exact Ne.symm (by assumption) | exact nA ok (by omega) (by omega) (by omega)) ?_) rfl) rfl ⟨ble rfl, ble rfl⟩ (ble rfl) dX12_wouldSound_36 rfl ?_
      first | refine x_aload_n 0 dX12_wouldSound_39 rfl rfl ?_ | refine x_aload_nN 0 dX12_wouldSound_39 rfl rfl ?_
      refine x_iload_n 1 dX12_wouldSound_40 rfl rfl ?_
      refine x_iconst (v := 1) dX12_wouldSound_41 rfl ?_
      refine x_cV1 (As := [.int _, .int _]) (ct_X12_of_1 ok (by omega)) vX12_101 rfl (x_recv (by with_reducible repeat first | assumption | exact mH_0 ok | exact mH_1 | exact hset_s | refine mH_o (by first | assumption | exact nA ok (by omega) (by omega) (by omega)) (by first | assumption | exact nA ok (by omega) (by omega) (by omega)) ?_ | refine hget_n (by first | assumption | exact Ne.symm (by assumption) | exact nA ok (by omega) (by omega) (by omega)) ?_) rfl) rfl ⟨ble rfl, ble rfl⟩ (ble rfl) dX12_wouldSound_42 rfl ?_
      first | refine x_aload_n 0 dX12_wouldSound_45 rfl rfl ?_ | refine x_aload_nN 0 dX12_wouldSound_45 rfl rfl ?_
      refine x_iload_n 1 dX12_wouldSound_46 rfl rfl ?_
      refine x_iconst (v := 2) dX12_wouldSound_47 rfl ?_
      refine x_cV1 (As := [.int _, .int _]) (ct_X12_of_2 ok (by omega)) vX12_101 rfl (x_recv (by with_reducible repeat first | assumption | exact mH_0 ok | exact mH_1 | exact hset_s | refine mH_o (by first | assumption | exact nA ok (by omega) (by omega) (by omega)) (by first | assumption | exact nA ok (by omega) (by omega) (by omega)) ?_ | refine hget_n (by first | assumption | exact Ne.symm (by assumption) | exact nA ok (by omega) (by omega) (by omega)) ?_) rfl) rfl ⟨ble rfl, ble rfl⟩ (ble rfl) dX12_wouldSound_48 rfl ?_
      refine x_iload_n 2 dX12_wouldSound_51 rfl rfl ?_
      refine x_iadd dX12_wouldSound_52 ?_
      refine x_bipush (v := 9) dX12_wouldSound_53 rfl ?_
      first | refine x_aload_n 0 dX12_wouldSound_55 rfl rfl ?_ | refine x_aload_nN 0 dX12_wouldSound_55 rfl rfl ?_
      refine x_iload_n 1 dX12_wouldSound_56 rfl rfl ?_
      refine x_iconst (v := 3) dX12_wouldSound_57 rfl ?_
      refine x_cV1 (As := [.int _, .int _]) (ct_X12_of_3 ok (by omega)) vX12_101 rfl (x_recv (by with_reducible repeat first | assumption | exact mH_0 ok | exact mH_1 | exact hset_s | refine mH_o (by first | assumption | exact nA ok (by omega) (by omega) (by omega)) (by first | assumption | exact nA ok (by omega) (by omega) (by omega)) ?_ | refine hget_n (by first | assumption | exact Ne.symm (by assumption) | exact nA ok (by omega) (by omega) (by omega)) ?_) rfl) rfl ⟨ble rfl, ble rfl⟩ (ble rfl) dX12_wouldSound_58 rfl ?_
      refine x_iload_n 3 dX12_wouldSound_61 rfl rfl ?_
      refine x_iadd dX12_wouldSound_62 ?_
      refine x_mmin rfl wX12_156 wMmin2 wMath3 wMmin4 (ble rfl) (ble rfl) dX12_wouldSound_63 ?_
      obtain ⟨m9, htt⟩ := mn9 (t := t) (z := z) ht9 (fun q => c27 (inI_0.mpr (Or.inl q))) (fun q => c27 (inI_0.mpr (Or.inr q)))
      rw [← ht] at m9 htt
      rw [m9]
      refine x_cS1 (As := [.int _, .int _, .int _, .int _]) (ct_X12_soundBy (by assumption) (by assumption)) vX12_190 rfl rfl ⟨ble rfl, ble rfl⟩ (ble rfl) dX12_wouldSound_66 rfl ?_
      refine x_iret rfl dX12_wouldSound_69 ?_
      refine ⟨congrArg (fun z => some (Value.int z)) ?_, rfl⟩
      simp only [inI_0] at *
      (repeat' split) <;> first | rfl | contradiction | (simp_all; done) | (exfalso; simp only [Int32.lt_iff_toInt_lt, Int32.le_iff_toInt_le] at *; omega)
    · refine x_bipush (v := -2) dX12_wouldSound_30 rfl ?_
      refine x_iret rfl dX12_wouldSound_32 ?_
      refine ⟨congrArg (fun z => some (Value.int z)) ?_, rfl⟩
      simp only [inI_0] at *
      (repeat' split) <;> first | rfl | contradiction | (simp_all; done) | (exfalso; simp only [Int32.lt_iff_toInt_lt, Int32.le_iff_toInt_le] at *; omega)
set_option maxRecDepth 100000 in
set_option maxHeartbeats 4000000 in
theorem ct_wouldSound_out {l : Launch} {G : Gl} {h : Hp} {sv rem typ err lin why wha beh its siz att wro tol : Int32} {N : Nat → Int32} (ok : Ok G) {ns np no : Nat} (A : RowA N ns np no) (x : Int32) (hx : ¬ (0 ≤ x ∧ x < N 3)) (y z : Int32) : CtR l G mX12_wouldSound 8 [.ref (Ad G 20), .int x, .int y, .int z] (mH G h (eMd G sv rem typ err lin why wha beh its siz att wro tol) N) (some (.int (-1))) (mH G h (eMd G sv rem typ err lin why wha beh its siz att wro tol) N) := by
  obtain ⟨a2, a3, a4, b2, b3, b4, AP, AO⟩ := A
  refine Ct.of (L := [(0, _), (1, _), (2, _), (3, _)]) (by decide) (ble rfl) rfl ?_
  first | refine x_aload_n 0 dX12_wouldSound_0 rfl rfl ?_ | refine x_aload_nN 0 dX12_wouldSound_0 rfl rfl ?_
  refine x_iload_n 1 dX12_wouldSound_1 rfl rfl ?_
  refine x_cV1 (As := [.int _]) (ct_isPot_out ok a3 b3 hx) vX12_129 rfl (x_recv (by with_reducible repeat first | assumption | exact mH_0 ok | exact mH_1 | exact hset_s | refine mH_o (by first | assumption | exact nA ok (by omega) (by omega) (by omega)) (by first | assumption | exact nA ok (by omega) (by omega) (by omega)) ?_ | refine hget_n (by first | assumption | exact Ne.symm (by assumption) | exact nA ok (by omega) (by omega) (by omega)) ?_) rfl) rfl ⟨ble rfl, ble rfl⟩ (ble rfl) dX12_wouldSound_2 rfl ?_
  refine x_if_ne 10 dX12_wouldSound_5 (by decide) (fun z => by first | exact absurd z (fun z => z rfl) | exact absurd (fun z => z rfl) z) (fun _ => ?_)
  refine x_iconst (v := -1) dX12_wouldSound_8 rfl ?_
  refine x_iret rfl dX12_wouldSound_9 ?_
  exact ⟨rfl, rfl⟩
