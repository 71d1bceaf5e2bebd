theorem in_of {y : Int32} {n : Nat} (hn : n < 2 ^ 31) (h : ¬ inI y 0 (nI n) = 0) : ∃ w, w ≤ n ∧ y = nI w := by
  have h1 : ¬ (y < 0 ∨ nI n < y) := fun z => h (inI_0.mpr z)
  obtain ⟨w, hw, rfl⟩ := nI_of (fun z => h1 (Or.inl z))
  exact ⟨w, Nat.not_lt.mp fun z => h1 (Or.inr (nI_lt z hw)), rfl⟩
theorem tlS_o {g fa ar ps y : Int32} (h : inI y 0 3 = 0) : tlS g fa ar ps y = -2 := by
  have h1 := inI_0.mp h
  have t3 : Int32.toInt 3 = 3 := rfl
  have t1 : Int32.toInt 1 = 1 := rfl
  have t2 : Int32.toInt 2 = 2 := rfl
  unfold tlS
  (repeat' split) <;> first | rfl | (exfalso; simp only [Int32.lt_iff_toInt_lt, ← Int32.toInt_inj, Int32.toInt_zero, t1, t2, t3] at *; omega)
theorem tlO_o {k : Nat} {t p po pd y : Int32} (h : inI y 0 4 = 0) : tlO k t p po pd y = -2 := by
  have h1 := inI_0.mp h
  have t3 : Int32.toInt 3 = 3 := rfl
  have t1 : Int32.toInt 1 = 1 := rfl
  have t2 : Int32.toInt 2 = 2 := rfl
  have t4 : Int32.toInt 4 = 4 := rfl
  unfold tlO
  (repeat' split) <;> first | rfl | (exfalso; simp only [Int32.lt_iff_toInt_lt, ← Int32.toInt_inj, Int32.toInt_zero, t1, t2, t3, t4] at *; omega)
set_option maxRecDepth 100000 in
set_option maxHeartbeats 1000000 in
theorem ct_sheetOf_n {l : Launch} {G : Gl} {h : Hp} {sv rem typ err lin why wha beh its siz att wro tol : Int32} {N : Nat → Int32} (ok : Ok G) {ns np no : Nat} (A : RowA N ns np no) {i : Nat} (hi : i < ns) (y : Int32) (hy : inI y 0 3 = 0) : CtR l G mX12_sheetOf 8 [.ref (Ad G 20), .int (nI i), .int y] (mH G h (eMd G sv rem typ err lin why wha beh its siz att wro tol) N) (some (.int (tlS (N (12 + 4 * i)) (N (15 + 4 * i)) (N (13 + 4 * i)) (N (14 + 4 * i)) y))) (mH G h (eMd G sv rem typ err lin why wha beh its siz att wro tol) N) := by
  obtain ⟨a2, a3, a4, b2, b3, b4, AP, AO⟩ := A
  refine Ct.of (L := [(0, _), (1, _), (2, _)]) (by decide) (ble rfl) rfl ?_
  first | refine x_aload_n 0 dX12_sheetOf_0 rfl rfl ?_ | refine x_aload_nN 0 dX12_sheetOf_0 rfl rfl ?_
  refine x_iload_n 1 dX12_sheetOf_1 rfl rfl ?_
  refine x_cV1 (As := [.int _]) (ct_isSheet_in ok a2 (by omega) hi) vX12_97 rfl (x_recv (by with_reducible repeat first | assumption | exact mH_0 ok | exact mH_1 | exact hset_s | refine mH_o (by first | assumption | exact nA ok (by omega) (by omega) (by omega)) (by first | assumption | exact nA ok (by omega) (by omega) (by omega)) ?_ | refine hget_n (by first | assumption | exact Ne.symm (by assumption) | exact nA ok (by omega) (by omega) (by omega)) ?_) rfl) rfl ⟨ble rfl, ble rfl⟩ (ble rfl) dX12_sheetOf_2 rfl ?_
  refine x_if_ne 10 dX12_sheetOf_5 (by decide) (fun _ => ?_) (fun z => by first | exact absurd (show ¬ (1 : Int32) = 0 by decide) z | exact absurd z (show ¬ (1 : Int32) = 0 by decide))
  refine x_iload_n 2 dX12_sheetOf_10 rfl rfl ?_
  refine x_iconst (v := 0) dX12_sheetOf_11 rfl ?_
  refine x_iconst (v := 3) dX12_sheetOf_12 rfl ?_
  refine x_cS1 (As := [.int _, .int _, .int _]) (ct_X12_isIn _ _ _) vX12_74 rfl rfl ⟨ble rfl, ble rfl⟩ (ble rfl) dX12_sheetOf_13 rfl ?_
  refine x_if_eq 35 dX12_sheetOf_16 (by decide) (fun _ => ?_) (fun z => by first | exact absurd (hy) z | exact absurd z (hy))
  refine x_bipush (v := -2) dX12_sheetOf_35 rfl ?_
  refine x_iret rfl dX12_sheetOf_37 ?_
  refine ⟨congrArg (fun z => some (Value.int z)) ?_, rfl⟩
  rw [tlS_o hy]
set_option maxRecDepth 100000 in
set_option maxHeartbeats 1000000 in
theorem ct_sheetOf_y {l : Launch} {G : Gl} {h : Hp} {sv rem typ err lin why wha beh its siz att wro tol : Int32} {N : Nat → Int32} (ok : Ok G) {ns np no : Nat} (A : RowA N ns np no) {i w : Nat} (hi : i < ns) (hw : w ≤ 3) : CtR l G mX12_sheetOf 8 [.ref (Ad G 20), .int (nI i), .int (nI w)] (mH G h (eMd G sv rem typ err lin why wha beh its siz att wro tol) N) (some (.int (tlS (N (12 + 4 * i)) (N (15 + 4 * i)) (N (13 + 4 * i)) (N (14 + 4 * i)) (nI w)))) (mH G h (eMd G sv rem typ err lin why wha beh its siz att wro tol) N) := by
  obtain ⟨a2, a3, a4, b2, b3, b4, AP, AO⟩ := A
  have hwi : ¬ inI (nI w) 0 3 = 0 := fun z => (inI_0.mp z).elim (nI_pos (by omega)) (nI_nlt (a := 3) (b := w) hw (by omega))
  refine Ct.of (L := [(0, _), (1, _), (2, _)]) (by decide) (ble rfl) rfl ?_
  first | refine x_aload_n 0 dX12_sheetOf_0 rfl rfl ?_ | refine x_aload_nN 0 dX12_sheetOf_0 rfl rfl ?_
  refine x_iload_n 1 dX12_sheetOf_1 rfl rfl ?_
  refine x_cV1 (As := [.int _]) (ct_isSheet_in ok a2 (by omega) hi) vX12_97 rfl (x_recv (by with_reducible repeat first | assumption | exact mH_0 ok | exact mH_1 | exact hset_s | refine mH_o (by first | assumption | exact nA ok (by omega) (by omega) (by omega)) (by first | assumption | exact nA ok (by omega) (by omega) (by omega)) ?_ | refine hget_n (by first | assumption | exact Ne.symm (by assumption) | exact nA ok (by omega) (by omega) (by omega)) ?_) rfl) rfl ⟨ble rfl, ble rfl⟩ (ble rfl) dX12_sheetOf_2 rfl ?_
  refine x_if_ne 10 dX12_sheetOf_5 (by decide) (fun _ => ?_) (fun z => by first | exact absurd (show ¬ (1 : Int32) = 0 by decide) z | exact absurd z (show ¬ (1 : Int32) = 0 by decide))
  refine x_iload_n 2 dX12_sheetOf_10 rfl rfl ?_
  refine x_iconst (v := 0) dX12_sheetOf_11 rfl ?_
  refine x_iconst (v := 3) dX12_sheetOf_12 rfl ?_
  refine x_cS1 (As := [.int _, .int _, .int _]) (ct_X12_isIn _ _ _) vX12_74 rfl rfl ⟨ble rfl, ble rfl⟩ (ble rfl) dX12_sheetOf_13 rfl ?_
  refine x_if_eq 35 dX12_sheetOf_16 (by decide) (fun z => by first | exact absurd z (hwi) | exact absurd (hwi) z) (fun _ => ?_)
  first | refine x_aload_n 0 dX12_sheetOf_19 rfl rfl ?_ | refine x_aload_nN 0 dX12_sheetOf_19 rfl rfl ?_
  refine x_get fX12_9 rfl dX12_sheetOf_20 (by with_reducible repeat first | assumption | exact mH_0 ok | exact mH_1 | exact hset_s | refine mH_o (by first | assumption | exact nA ok (by omega) (by omega) (by omega)) (by first | assumption | exact nA ok (by omega) (by omega) (by omega)) ?_ | refine hget_n (by first | assumption | exact Ne.symm (by assumption) | exact nA ok (by omega) (by omega) (by omega)) ?_) (by rfl) ?_
  refine x_bipush (v := 12) dX12_sheetOf_23 rfl ?_
  refine x_iconst (v := 4) dX12_sheetOf_25 rfl ?_
  refine x_iload_n 1 dX12_sheetOf_26 rfl rfl ?_
  refine x_imul dX12_sheetOf_27 ?_
  refine x_iadd dX12_sheetOf_28 ?_
  refine x_iload_n 2 dX12_sheetOf_29 rfl rfl ?_
  refine x_iadd dX12_sheetOf_30 ?_
  refine x_mald (i := 12 + 4 * i + w) (v := N (12 + 4 * i + w)) (by first | exact Eq.refl (nI _) | exact ix_p _ _ | exact ix_o _ _ | exact ix_s _ | exact ix_s1 _ _ | (rw [ix_s]; exact nI_add _ _) | exact nI_add _ 1 | exact nI_add _ 2 | exact nI_add _ 3 | exact nI_add _ 4 | (rw [ix_o0]; exact nI_add _ 3) | (rw [ix_o0]; exact nI_add _ 4) | (rw [ix_o0]; exact nI_add _ _) | (rw [ix_o0]; exact (nI_add _ 3).trans (congrArg nI (by omega))) | (rw [ix_o0]; exact (nI_add _ 4).trans (congrArg nI (by omega))) | exact (nI_add _ 1).trans (congrArg nI (by omega)) | exact (nI_add _ 2).trans (congrArg nI (by omega)) | exact (nI_add _ 3).trans (congrArg nI (by omega)) | exact (nI_add _ 4).trans (congrArg nI (by omega))) dX12_sheetOf_31 (by omega) (rfl) ?_
  refine x_goto 37 dX12_sheetOf_32 (by decide) ?_
  refine x_iret rfl dX12_sheetOf_37 ?_
  refine ⟨congrArg (fun z => some (Value.int z)) ?_, rfl⟩
  rcases (show w = 0 ∨ w = 1 ∨ w = 2 ∨ w = 3 by omega) with rfl | rfl | rfl | rfl
  · exact Eq.refl (N (12 + 4 * i))
  · exact congrArg N (by omega)
  · exact congrArg N (by omega)
  · exact congrArg N (by omega)
set_option maxRecDepth 100000 in
set_option maxHeartbeats 1000000 in
theorem ct_sheetOf_out {l : Launch} {G : Gl} {h : Hp} {sv rem typ err lin why wha beh its siz att wro tol : Int32} {N : Nat → Int32} (ok : Ok G) {ns np no : Nat} (A : RowA N ns np no) (x y : Int32) (hx : ¬ (0 ≤ x ∧ x < N 2)) : CtR l G mX12_sheetOf 8 [.ref (Ad G 20), .int x, .int y] (mH G h (eMd G sv rem typ err lin why wha beh its siz att wro tol) N) (some (.int (-1))) (mH G h (eMd G sv rem typ err lin why wha beh its siz att wro tol) N) := by
  obtain ⟨a2, a3, a4, b2, b3, b4, AP, AO⟩ := A
  refine Ct.of (L := [(0, _), (1, _), (2, _)]) (by decide) (ble rfl) rfl ?_
  first | refine x_aload_n 0 dX12_sheetOf_0 rfl rfl ?_ | refine x_aload_nN 0 dX12_sheetOf_0 rfl rfl ?_
  refine x_iload_n 1 dX12_sheetOf_1 rfl rfl ?_
  refine x_cV1 (As := [.int _]) (ct_isSheet_out ok a2 (by omega) hx) vX12_97 rfl (x_recv (by with_reducible repeat first | assumption | exact mH_0 ok | exact mH_1 | exact hset_s | refine mH_o (by first | assumption | exact nA ok (by omega) (by omega) (by omega)) (by first | assumption | exact nA ok (by omega) (by omega) (by omega)) ?_ | refine hget_n (by first | assumption | exact Ne.symm (by assumption) | exact nA ok (by omega) (by omega) (by omega)) ?_) rfl) rfl ⟨ble rfl, ble rfl⟩ (ble rfl) dX12_sheetOf_2 rfl ?_
  refine x_if_ne 10 dX12_sheetOf_5 (by decide) (fun z => by first | exact absurd z (fun z => z rfl) | exact absurd (fun z => z rfl) z) (fun _ => ?_)
  refine x_iconst (v := -1) dX12_sheetOf_8 rfl ?_
  refine x_iret rfl dX12_sheetOf_9 ?_
  exact ⟨rfl, rfl⟩
set_option maxRecDepth 100000 in
set_option maxHeartbeats 1000000 in
theorem ct_ofOrder_w {l : Launch} {G : Gl} {h : Hp} {sv rem typ err lin why wha beh its siz att wro tol : Int32} {N : Nat → Int32} (ok : Ok G) {j : Nat} (hj : j < 8) {w : Nat} (hw : w < 5) : CtR l G mX12_ofOrder 1 [.ref (Ad G 20), .int (nI j), .int (nI w)] (mH G h (eMd G sv rem typ err lin why wha beh its siz att wro tol) N) (some (.int (N (188 + 5 * j + w)))) (mH G h (eMd G sv rem typ err lin why wha beh its siz att wro tol) N) := by
  refine Ct.of (L := [(0, _), (1, _), (2, _)]) (by decide) (ble rfl) rfl ?_
  first | refine x_aload_n 0 dX12_ofOrder_0 rfl rfl ?_ | refine x_aload_nN 0 dX12_ofOrder_0 rfl rfl ?_
  refine x_get fX12_9 rfl dX12_ofOrder_1 (by with_reducible repeat first | assumption | exact mH_0 ok | exact mH_1 | exact hset_s | refine mH_o (by first | assumption | exact nA ok (by omega) (by omega) (by omega)) (by first | assumption | exact nA ok (by omega) (by omega) (by omega)) ?_ | refine hget_n (by first | assumption | exact Ne.symm (by assumption) | exact nA ok (by omega) (by omega) (by omega)) ?_) (by rfl) ?_
  refine x_sipush (v := 188) dX12_ofOrder_4 rfl ?_
  refine x_iconst (v := 5) dX12_ofOrder_7 rfl ?_
  refine x_iload_n 1 dX12_ofOrder_8 rfl rfl ?_
  refine x_imul dX12_ofOrder_9 ?_
  refine x_iadd dX12_ofOrder_10 ?_
  refine x_iload_n 2 dX12_ofOrder_11 rfl rfl ?_
  refine x_iadd dX12_ofOrder_12 ?_
  refine x_mald (i := 188 + 5 * j + w) (v := N (188 + 5 * j + w)) (by first | exact Eq.refl (nI _) | exact ix_p _ _ | exact ix_o _ _ | exact ix_s _ | exact ix_s1 _ _ | (rw [ix_s]; exact nI_add _ _) | exact nI_add _ 1 | exact nI_add _ 2 | exact nI_add _ 3 | exact nI_add _ 4 | (rw [ix_o0]; exact nI_add _ 3) | (rw [ix_o0]; exact nI_add _ 4) | (rw [ix_o0]; exact nI_add _ _) | (rw [ix_o0]; exact (nI_add _ 3).trans (congrArg nI (by omega))) | (rw [ix_o0]; exact (nI_add _ 4).trans (congrArg nI (by omega))) | exact (nI_add _ 1).trans (congrArg nI (by omega)) | exact (nI_add _ 2).trans (congrArg nI (by omega)) | exact (nI_add _ 3).trans (congrArg nI (by omega)) | exact (nI_add _ 4).trans (congrArg nI (by omega))) dX12_ofOrder_13 (by omega) (rfl) ?_
  refine x_iret rfl dX12_ofOrder_14 ?_
  exact ⟨rfl, rfl⟩
set_option maxRecDepth 100000 in
set_option maxHeartbeats 1000000 in
theorem ct_of_w {l : Launch} {G : Gl} {h : Hp} {sv rem typ err lin why wha beh its siz att wro tol : Int32} {N : Nat → Int32} (ok : Ok G) {i : Nat} (hi : i < 16) {w : Nat} (hw : w < 8) {y : Int32} (hy : y = nI w) : CtR l G mX12_of 1 [.ref (Ad G 20), .int (nI i), .int y] (mH G h (eMd G sv rem typ err lin why wha beh its siz att wro tol) N) (some (.int (N (60 + 8 * i + w)))) (mH G h (eMd G sv rem typ err lin why wha beh its siz att wro tol) N) := by
  subst hy
  refine Ct.of (L := [(0, _), (1, _), (2, _)]) (by decide) (ble rfl) rfl ?_
  first | refine x_aload_n 0 dX12_of_0 rfl rfl ?_ | refine x_aload_nN 0 dX12_of_0 rfl rfl ?_
  refine x_get fX12_9 rfl dX12_of_1 (by with_reducible repeat first | assumption | exact mH_0 ok | exact mH_1 | exact hset_s | refine mH_o (by first | assumption | exact nA ok (by omega) (by omega) (by omega)) (by first | assumption | exact nA ok (by omega) (by omega) (by omega)) ?_ | refine hget_n (by first | assumption | exact Ne.symm (by assumption) | exact nA ok (by omega) (by omega) (by omega)) ?_) (by rfl) ?_
  refine x_bipush (v := 60) dX12_of_4 rfl ?_
  refine x_bipush (v := 8) dX12_of_6 rfl ?_
  refine x_iload_n 1 dX12_of_8 rfl rfl ?_
  refine x_imul dX12_of_9 ?_
  refine x_iadd dX12_of_10 ?_
  refine x_iload_n 2 dX12_of_11 rfl rfl ?_
  refine x_iadd dX12_of_12 ?_
  refine x_mald (i := 60 + 8 * i + w) (v := N (60 + 8 * i + w)) (by first | exact Eq.refl (nI _) | exact ix_p _ _ | exact ix_o _ _ | exact ix_s _ | exact ix_s1 _ _ | (rw [ix_s]; exact nI_add _ _) | exact nI_add _ 1 | exact nI_add _ 2 | exact nI_add _ 3 | exact nI_add _ 4 | (rw [ix_o0]; exact nI_add _ 3) | (rw [ix_o0]; exact nI_add _ 4) | (rw [ix_o0]; exact nI_add _ _) | (rw [ix_o0]; exact (nI_add _ 3).trans (congrArg nI (by omega))) | (rw [ix_o0]; exact (nI_add _ 4).trans (congrArg nI (by omega))) | exact (nI_add _ 1).trans (congrArg nI (by omega)) | exact (nI_add _ 2).trans (congrArg nI (by omega)) | exact (nI_add _ 3).trans (congrArg nI (by omega)) | exact (nI_add _ 4).trans (congrArg nI (by omega))) dX12_of_13 (by omega) (rfl) ?_
  refine x_iret rfl dX12_of_14 ?_
  exact ⟨rfl, rfl⟩
set_option maxRecDepth 100000 in
set_option maxHeartbeats 1000000 in
theorem ct_orderOf_n {l : Launch} {G : Gl} {h : Hp} {sv rem typ err lin why wha beh its siz att wro tol : Int32} {N : Nat → Int32} (ok : Ok G) {ns np no : Nat} (A : RowA N ns np no) {i : Nat} (hi : i < no) (y : Int32) (hy : inI y 0 4 = 0) : CtR l G mX12_orderOf 8 [.ref (Ad G 20), .int (nI i), .int y] (mH G h (eMd G sv rem typ err lin why wha beh its siz att wro tol) N) (some (.int (tlO (kOf (N (188 + 5 * i))) (N (189 + 5 * i)) (N (190 + 5 * i)) (N (191 + 5 * i)) (N (192 + 5 * i)) y))) (mH G h (eMd G sv rem typ err lin why wha beh its siz att wro tol) N) := by
  obtain ⟨a2, a3, a4, b2, b3, b4, AP, AO⟩ := A
  refine Ct.of (L := [(0, _), (1, _), (2, _)]) (by decide) (ble rfl) rfl ?_
  first | refine x_aload_n 0 dX12_orderOf_0 rfl rfl ?_ | refine x_aload_nN 0 dX12_orderOf_0 rfl rfl ?_
  refine x_iload_n 1 dX12_orderOf_1 rfl rfl ?_
  refine x_cV1 (As := [.int _]) (ct_isOrder_in ok a4 (by omega) hi) vX12_171 rfl (x_recv (by with_reducible repeat first | assumption | exact mH_0 ok | exact mH_1 | exact hset_s | refine mH_o (by first | assumption | exact nA ok (by omega) (by omega) (by omega)) (by first | assumption | exact nA ok (by omega) (by omega) (by omega)) ?_ | refine hget_n (by first | assumption | exact Ne.symm (by assumption) | exact nA ok (by omega) (by omega) (by omega)) ?_) rfl) rfl ⟨ble rfl, ble rfl⟩ (ble rfl) dX12_orderOf_2 rfl ?_
  refine x_if_ne 10 dX12_orderOf_5 (by decide) (fun _ => ?_) (fun z => by first | exact absurd (show ¬ (1 : Int32) = 0 by decide) z | exact absurd z (show ¬ (1 : Int32) = 0 by decide))
  refine x_iload_n 2 dX12_orderOf_10 rfl rfl ?_
  refine x_iconst (v := 0) dX12_orderOf_11 rfl ?_
  refine x_iconst (v := 4) dX12_orderOf_12 rfl ?_
  refine x_cS1 (As := [.int _, .int _, .int _]) (ct_X12_isIn _ _ _) vX12_74 rfl rfl ⟨ble rfl, ble rfl⟩ (ble rfl) dX12_orderOf_13 rfl ?_
  refine x_if_eq 28 dX12_orderOf_16 (by decide) (fun _ => ?_) (fun z => by first | exact absurd (hy) z | exact absurd z (hy))
  refine x_bipush (v := -2) dX12_orderOf_28 rfl ?_
  refine x_iret rfl dX12_orderOf_30 ?_
  refine ⟨congrArg (fun z => some (Value.int z)) ?_, rfl⟩
  rw [tlO_o hy]
set_option maxRecDepth 100000 in
set_option maxHeartbeats 1000000 in
theorem ct_orderOf_y {l : Launch} {G : Gl} {h : Hp} {sv rem typ err lin why wha beh its siz att wro tol : Int32} {N : Nat → Int32} (ok : Ok G) {ns np no : Nat} (A : RowA N ns np no) {i w : Nat} (hi : i < no) (hw : w ≤ 4) : CtR l G mX12_orderOf 8 [.ref (Ad G 20), .int (nI i), .int (nI w)] (mH G h (eMd G sv rem typ err lin why wha beh its siz att wro tol) N) (some (.int (tlO (kOf (N (188 + 5 * i))) (N (189 + 5 * i)) (N (190 + 5 * i)) (N (191 + 5 * i)) (N (192 + 5 * i)) (nI w)))) (mH G h (eMd G sv rem typ err lin why wha beh its siz att wro tol) N) := by
  obtain ⟨a2, a3, a4, b2, b3, b4, AP, AO⟩ := A
  have hwi : ¬ inI (nI w) 0 4 = 0 := fun z => (inI_0.mp z).elim (nI_pos (by omega)) (nI_nlt (a := 4) (b := w) hw (by omega))
  have hK2 := (AO i hi).1
  refine Ct.of (L := [(0, _), (1, _), (2, _)]) (by decide) (ble rfl) rfl ?_
  first | refine x_aload_n 0 dX12_orderOf_0 rfl rfl ?_ | refine x_aload_nN 0 dX12_orderOf_0 rfl rfl ?_
  refine x_iload_n 1 dX12_orderOf_1 rfl rfl ?_
  refine x_cV1 (As := [.int _]) (ct_isOrder_in ok a4 (by omega) hi) vX12_171 rfl (x_recv (by with_reducible repeat first | assumption | exact mH_0 ok | exact mH_1 | exact hset_s | refine mH_o (by first | assumption | exact nA ok (by omega) (by omega) (by omega)) (by first | assumption | exact nA ok (by omega) (by omega) (by omega)) ?_ | refine hget_n (by first | assumption | exact Ne.symm (by assumption) | exact nA ok (by omega) (by omega) (by omega)) ?_) rfl) rfl ⟨ble rfl, ble rfl⟩ (ble rfl) dX12_orderOf_2 rfl ?_
  refine x_if_ne 10 dX12_orderOf_5 (by decide) (fun _ => ?_) (fun z => by first | exact absurd (show ¬ (1 : Int32) = 0 by decide) z | exact absurd z (show ¬ (1 : Int32) = 0 by decide))
  refine x_iload_n 2 dX12_orderOf_10 rfl rfl ?_
  refine x_iconst (v := 0) dX12_orderOf_11 rfl ?_
  refine x_iconst (v := 4) dX12_orderOf_12 rfl ?_
  refine x_cS1 (As := [.int _, .int _, .int _]) (ct_X12_isIn _ _ _) vX12_74 rfl rfl ⟨ble rfl, ble rfl⟩ (ble rfl) dX12_orderOf_13 rfl ?_
  refine x_if_eq 28 dX12_orderOf_16 (by decide) (fun z => by first | exact absurd z (hwi) | exact absurd (hwi) z) (fun _ => ?_)
  first | refine x_aload_n 0 dX12_orderOf_19 rfl rfl ?_ | refine x_aload_nN 0 dX12_orderOf_19 rfl rfl ?_
  refine x_iload_n 1 dX12_orderOf_20 rfl rfl ?_
  refine x_iload_n 2 dX12_orderOf_21 rfl rfl ?_
  refine x_cV1 (As := [.int _, .int _]) (ct_ofOrder_w ok (by omega) (by omega)) vX12_162 rfl (x_recv (by with_reducible repeat first | assumption | exact mH_0 ok | exact mH_1 | exact hset_s | refine mH_o (by first | assumption | exact nA ok (by omega) (by omega) (by omega)) (by first | assumption | exact nA ok (by omega) (by omega) (by omega)) ?_ | refine hget_n (by first | assumption | exact Ne.symm (by assumption) | exact nA ok (by omega) (by omega) (by omega)) ?_) rfl) rfl ⟨ble rfl, ble rfl⟩ (ble rfl) dX12_orderOf_22 rfl ?_
  refine x_goto 30 dX12_orderOf_25 (by decide) ?_
  refine x_iret rfl dX12_orderOf_30 ?_
  refine ⟨congrArg (fun z => some (Value.int z)) ?_, rfl⟩
  rcases (show w = 0 ∨ w = 1 ∨ w = 2 ∨ w = 3 ∨ w = 4 by omega) with rfl | rfl | rfl | rfl | rfl
  · show N (188 + 5 * i) = kNum (kOf (N (188 + 5 * i))); rw [kNum_e _ hK2.2]; exact hK2.1
  · exact congrArg N (by omega)
  · exact congrArg N (by omega)
  · exact congrArg N (by omega)
  · exact congrArg N (by omega)
set_option maxRecDepth 100000 in
set_option maxHeartbeats 1000000 in
theorem ct_orderOf_out {l : Launch} {G : Gl} {h : Hp} {sv rem typ err lin why wha beh its siz att wro tol : Int32} {N : Nat → Int32} (ok : Ok G) {ns np no : Nat} (A : RowA N ns np no) (x y : Int32) (hx : ¬ (0 ≤ x ∧ x < N 4)) : CtR l G mX12_orderOf 8 [.ref (Ad G 20), .int x, .int y] (mH G h (eMd G sv rem typ err lin why wha beh its siz att wro tol) N) (some (.int (-1))) (mH G h (eMd G sv rem typ err lin why wha beh its siz att wro tol) N) := by
  obtain ⟨a2, a3, a4, b2, b3, b4, AP, AO⟩ := A
  refine Ct.of (L := [(0, _), (1, _), (2, _)]) (by decide) (ble rfl) rfl ?_
  first | refine x_aload_n 0 dX12_orderOf_0 rfl rfl ?_ | refine x_aload_nN 0 dX12_orderOf_0 rfl rfl ?_
  refine x_iload_n 1 dX12_orderOf_1 rfl rfl ?_
  refine x_cV1 (As := [.int _]) (ct_isOrder_out ok a4 (by omega) hx) vX12_171 rfl (x_recv (by with_reducible repeat first | assumption | exact mH_0 ok | exact mH_1 | exact hset_s | refine mH_o (by first | assumption | exact nA ok (by omega) (by omega) (by omega)) (by first | assumption | exact nA ok (by omega) (by omega) (by omega)) ?_ | refine hget_n (by first | assumption | exact Ne.symm (by assumption) | exact nA ok (by omega) (by omega) (by omega)) ?_) rfl) rfl ⟨ble rfl, ble rfl⟩ (ble rfl) dX12_orderOf_2 rfl ?_
  refine x_if_ne 10 dX12_orderOf_5 (by decide) (fun z => by first | exact absurd z (fun z => z rfl) | exact absurd (fun z => z rfl) z) (fun _ => ?_)
  refine x_iconst (v := -1) dX12_orderOf_8 rfl ?_
  refine x_iret rfl dX12_orderOf_9 ?_
  exact ⟨rfl, rfl⟩
set_option maxRecDepth 100000 in
set_option maxHeartbeats 1000000 in
theorem ct_potOf_0 {l : Launch} {G : Gl} {h : Hp} {sv rem typ err lin why wha beh its siz att wro tol : Int32} {N : Nat → Int32} (ok : Ok G) {ns np no : Nat} (A : RowA N ns np no) {i : Nat} (hi : i < np) : CtR l G mX12_potOf 8 [.ref (Ad G 20), .int (nI i), .int (nI 0)] (mH G h (eMd G sv rem typ err lin why wha beh its siz att wro tol) N) (some (.int (tlP (kOf (N (60 + 8 * i))) (N (67 + 8 * i)) (N (61 + 8 * i)) (N (62 + 8 * i)) (N (63 + 8 * i)) (N (64 + 8 * i)) (N (66 + 8 * i)) (nI 0)))) (mH G h (eMd G sv rem typ err lin why wha beh its siz att wro tol) N) := by
  obtain ⟨a2, a3, a4, b2, b3, b4, AP, AO⟩ := A
  have P := AP i hi
  obtain ⟨hK, ⟨g, hg, hg1, hg9⟩, ⟨b, hb, hb2⟩, ⟨t, ht, ht9⟩, -⟩ := id P
  have hq := mis_e _ hK.2 b (by omega)
  rw [← hb] at hq
  have hq0 := mis0 hK.2 hq
  refine Ct.of (L := [(0, _), (1, _), (2, _)]) (by decide) (ble rfl) rfl ?_
  first | refine x_aload_n 0 dX12_potOf_0 rfl rfl ?_ | refine x_aload_nN 0 dX12_potOf_0 rfl rfl ?_
  refine x_iload_n 1 dX12_potOf_1 rfl rfl ?_
  refine x_cV1 (As := [.int _]) (ct_isPot_in ok a3 b3 hi) vX12_129 rfl (x_recv (by with_reducible repeat first | assumption | exact mH_0 ok | exact mH_1 | exact hset_s | refine mH_o (by first | assumption | exact nA ok (by omega) (by omega) (by omega)) (by first | assumption | exact nA ok (by omega) (by omega) (by omega)) ?_ | refine hget_n (by first | assumption | exact Ne.symm (by assumption) | exact nA ok (by omega) (by omega) (by omega)) ?_) rfl) rfl ⟨ble rfl, ble rfl⟩ (ble rfl) dX12_potOf_2 rfl ?_
  refine x_if_ne 10 dX12_potOf_5 (by decide) (fun _ => ?_) (fun z => by first | exact absurd (show ¬ (1 : Int32) = 0 by decide) z | exact absurd z (show ¬ (1 : Int32) = 0 by decide))
  refine x_iload_n 2 dX12_potOf_10 rfl rfl ?_
  refine x_tableIn 64 dX12_potOf_11 (by decide) (by decide) (by rfl) (by decide) ?_
  first | refine x_aload_n 0 dX12_potOf_64 rfl rfl ?_ | refine x_aload_nN 0 dX12_potOf_64 rfl rfl ?_
  refine x_iload_n 1 dX12_potOf_65 rfl rfl ?_
  refine x_iload_n 2 dX12_potOf_66 rfl rfl ?_
  refine x_cV1 (As := [.int _, .int _]) (ct_of_w ok (w := 0) (by omega) (by omega) rfl) vX12_101 rfl (x_recv (by with_reducible repeat first | assumption | exact mH_0 ok | exact mH_1 | exact hset_s | refine mH_o (by first | assumption | exact nA ok (by omega) (by omega) (by omega)) (by first | assumption | exact nA ok (by omega) (by omega) (by omega)) ?_ | refine hget_n (by first | assumption | exact Ne.symm (by assumption) | exact nA ok (by omega) (by omega) (by omega)) ?_) rfl) rfl ⟨ble rfl, ble rfl⟩ (ble rfl) dX12_potOf_67 rfl ?_
  refine x_iret rfl dX12_potOf_70 ?_
  refine ⟨congrArg (fun z => some (Value.int z)) ?_, rfl⟩
  show N (60 + 8 * i) = kNum (kOf (N (60 + 8 * i))); rw [kNum_e _ hK.2]; exact hK.1
set_option maxRecDepth 100000 in
set_option maxHeartbeats 1000000 in
theorem ct_potOf_1 {l : Launch} {G : Gl} {h : Hp} {sv rem typ err lin why wha beh its siz att wro tol : Int32} {N : Nat → Int32} (ok : Ok G) {ns np no : Nat} (A : RowA N ns np no) {i : Nat} (hi : i < np) : CtR l G mX12_potOf 8 [.ref (Ad G 20), .int (nI i), .int (nI 1)] (mH G h (eMd G sv rem typ err lin why wha beh its siz att wro tol) N) (some (.int (tlP (kOf (N (60 + 8 * i))) (N (67 + 8 * i)) (N (61 + 8 * i)) (N (62 + 8 * i)) (N (63 + 8 * i)) (N (64 + 8 * i)) (N (66 + 8 * i)) (nI 1)))) (mH G h (eMd G sv rem typ err lin why wha beh its siz att wro tol) N) := by
  obtain ⟨a2, a3, a4, b2, b3, b4, AP, AO⟩ := A
  have P := AP i hi
  obtain ⟨hK, ⟨g, hg, hg1, hg9⟩, ⟨b, hb, hb2⟩, ⟨t, ht, ht9⟩, -⟩ := id P
  have hq := mis_e _ hK.2 b (by omega)
  rw [← hb] at hq
  have hq0 := mis0 hK.2 hq
  refine Ct.of (L := [(0, _), (1, _), (2, _)]) (by decide) (ble rfl) rfl ?_
  first | refine x_aload_n 0 dX12_potOf_0 rfl rfl ?_ | refine x_aload_nN 0 dX12_potOf_0 rfl rfl ?_
  refine x_iload_n 1 dX12_potOf_1 rfl rfl ?_
  refine x_cV1 (As := [.int _]) (ct_isPot_in ok a3 b3 hi) vX12_129 rfl (x_recv (by with_reducible repeat first | assumption | exact mH_0 ok | exact mH_1 | exact hset_s | refine mH_o (by first | assumption | exact nA ok (by omega) (by omega) (by omega)) (by first | assumption | exact nA ok (by omega) (by omega) (by omega)) ?_ | refine hget_n (by first | assumption | exact Ne.symm (by assumption) | exact nA ok (by omega) (by omega) (by omega)) ?_) rfl) rfl ⟨ble rfl, ble rfl⟩ (ble rfl) dX12_potOf_2 rfl ?_
  refine x_if_ne 10 dX12_potOf_5 (by decide) (fun _ => ?_) (fun z => by first | exact absurd (show ¬ (1 : Int32) = 0 by decide) z | exact absurd z (show ¬ (1 : Int32) = 0 by decide))
  refine x_iload_n 2 dX12_potOf_10 rfl rfl ?_
  refine x_tableIn 64 dX12_potOf_11 (by decide) (by decide) (by rfl) (by decide) ?_
  first | refine x_aload_n 0 dX12_potOf_64 rfl rfl ?_ | refine x_aload_nN 0 dX12_potOf_64 rfl rfl ?_
  refine x_iload_n 1 dX12_potOf_65 rfl rfl ?_
  refine x_iload_n 2 dX12_potOf_66 rfl rfl ?_
  refine x_cV1 (As := [.int _, .int _]) (ct_of_w ok (w := 1) (by omega) (by omega) rfl) vX12_101 rfl (x_recv (by with_reducible repeat first | assumption | exact mH_0 ok | exact mH_1 | exact hset_s | refine mH_o (by first | assumption | exact nA ok (by omega) (by omega) (by omega)) (by first | assumption | exact nA ok (by omega) (by omega) (by omega)) ?_ | refine hget_n (by first | assumption | exact Ne.symm (by assumption) | exact nA ok (by omega) (by omega) (by omega)) ?_) rfl) rfl ⟨ble rfl, ble rfl⟩ (ble rfl) dX12_potOf_67 rfl ?_
  refine x_iret rfl dX12_potOf_70 ?_
  refine ⟨congrArg (fun z => some (Value.int z)) ?_, rfl⟩
  exact congrArg N (by omega)
set_option maxRecDepth 100000 in
set_option maxHeartbeats 1000000 in
theorem ct_potOf_2 {l : Launch} {G : Gl} {h : Hp} {sv rem typ err lin why wha beh its siz att wro tol : Int32} {N : Nat → Int32} (ok : Ok G) {ns np no : Nat} (A : RowA N ns np no) {i : Nat} (hi : i < np) : CtR l G mX12_potOf 8 [.ref (Ad G 20), .int (nI i), .int (nI 2)] (mH G h (eMd G sv rem typ err lin why wha beh its siz att wro tol) N) (some (.int (tlP (kOf (N (60 + 8 * i))) (N (67 + 8 * i)) (N (61 + 8 * i)) (N (62 + 8 * i)) (N (63 + 8 * i)) (N (64 + 8 * i)) (N (66 + 8 * i)) (nI 2)))) (mH G h (eMd G sv rem typ err lin why wha beh its siz att wro tol) N) := by
  obtain ⟨a2, a3, a4, b2, b3, b4, AP, AO⟩ := A
  have P := AP i hi
  obtain ⟨hK, ⟨g, hg, hg1, hg9⟩, ⟨b, hb, hb2⟩, ⟨t, ht, ht9⟩, -⟩ := id P
  have hq := mis_e _ hK.2 b (by omega)
  rw [← hb] at hq
  have hq0 := mis0 hK.2 hq
  refine Ct.of (L := [(0, _), (1, _), (2, _)]) (by decide) (ble rfl) rfl ?_
  first | refine x_aload_n 0 dX12_potOf_0 rfl rfl ?_ | refine x_aload_nN 0 dX12_potOf_0 rfl rfl ?_
  refine x_iload_n 1 dX12_potOf_1 rfl rfl ?_
  refine x_cV1 (As := [.int _]) (ct_isPot_in ok a3 b3 hi) vX12_129 rfl (x_recv (by with_reducible repeat first | assumption | exact mH_0 ok | exact mH_1 | exact hset_s | refine mH_o (by first | assumption | exact nA ok (by omega) (by omega) (by omega)) (by first | assumption | exact nA ok (by omega) (by omega) (by omega)) ?_ | refine hget_n (by first | assumption | exact Ne.symm (by assumption) | exact nA ok (by omega) (by omega) (by omega)) ?_) rfl) rfl ⟨ble rfl, ble rfl⟩ (ble rfl) dX12_potOf_2 rfl ?_
  refine x_if_ne 10 dX12_potOf_5 (by decide) (fun _ => ?_) (fun z => by first | exact absurd (show ¬ (1 : Int32) = 0 by decide) z | exact absurd z (show ¬ (1 : Int32) = 0 by decide))
  refine x_iload_n 2 dX12_potOf_10 rfl rfl ?_
  refine x_tableIn 71 dX12_potOf_11 (by decide) (by decide) (by rfl) (by decide) ?_
  first | refine x_aload_n 0 dX12_potOf_71 rfl rfl ?_ | refine x_aload_nN 0 dX12_potOf_71 rfl rfl ?_
  refine x_iload_n 1 dX12_potOf_72 rfl rfl ?_
  refine x_cV1 (As := [.int _]) (ct_X12_thickness ok (by omega) hK) vX12_117 rfl (x_recv (by with_reducible repeat first | assumption | exact mH_0 ok | exact mH_1 | exact hset_s | refine mH_o (by first | assumption | exact nA ok (by omega) (by omega) (by omega)) (by first | assumption | exact nA ok (by omega) (by omega) (by omega)) ?_ | refine hget_n (by first | assumption | exact Ne.symm (by assumption) | exact nA ok (by omega) (by omega) (by omega)) ?_) rfl) rfl ⟨ble rfl, ble rfl⟩ (ble rfl) dX12_potOf_73 rfl ?_
  refine x_iret rfl dX12_potOf_76 ?_
  exact ⟨rfl, rfl⟩
set_option maxRecDepth 100000 in
set_option maxHeartbeats 1000000 in
theorem ct_potOf_3 {l : Launch} {G : Gl} {h : Hp} {sv rem typ err lin why wha beh its siz att wro tol : Int32} {N : Nat → Int32} (ok : Ok G) {ns np no : Nat} (A : RowA N ns np no) {i : Nat} (hi : i < np) : CtR l G mX12_potOf 8 [.ref (Ad G 20), .int (nI i), .int (nI 3)] (mH G h (eMd G sv rem typ err lin why wha beh its siz att wro tol) N) (some (.int (tlP (kOf (N (60 + 8 * i))) (N (67 + 8 * i)) (N (61 + 8 * i)) (N (62 + 8 * i)) (N (63 + 8 * i)) (N (64 + 8 * i)) (N (66 + 8 * i)) (nI 3)))) (mH G h (eMd G sv rem typ err lin why wha beh its siz att wro tol) N) := by
  obtain ⟨a2, a3, a4, b2, b3, b4, AP, AO⟩ := A
  have P := AP i hi
  obtain ⟨hK, ⟨g, hg, hg1, hg9⟩, ⟨b, hb, hb2⟩, ⟨t, ht, ht9⟩, -⟩ := id P
  have hq := mis_e _ hK.2 b (by omega)
  rw [← hb] at hq
  have hq0 := mis0 hK.2 hq
  refine Ct.of (L := [(0, _), (1, _), (2, _)]) (by decide) (ble rfl) rfl ?_
  first | refine x_aload_n 0 dX12_potOf_0 rfl rfl ?_ | refine x_aload_nN 0 dX12_potOf_0 rfl rfl ?_
  refine x_iload_n 1 dX12_potOf_1 rfl rfl ?_
  refine x_cV1 (As := [.int _]) (ct_isPot_in ok a3 b3 hi) vX12_129 rfl (x_recv (by with_reducible repeat first | assumption | exact mH_0 ok | exact mH_1 | exact hset_s | refine mH_o (by first | assumption | exact nA ok (by omega) (by omega) (by omega)) (by first | assumption | exact nA ok (by omega) (by omega) (by omega)) ?_ | refine hget_n (by first | assumption | exact Ne.symm (by assumption) | exact nA ok (by omega) (by omega) (by omega)) ?_) rfl) rfl ⟨ble rfl, ble rfl⟩ (ble rfl) dX12_potOf_2 rfl ?_
  refine x_if_ne 10 dX12_potOf_5 (by decide) (fun _ => ?_) (fun z => by first | exact absurd (show ¬ (1 : Int32) = 0 by decide) z | exact absurd z (show ¬ (1 : Int32) = 0 by decide))
  refine x_iload_n 2 dX12_potOf_10 rfl rfl ?_
  refine x_tableIn 77 dX12_potOf_11 (by decide) (by decide) (by rfl) (by decide) ?_
  first | refine x_aload_n 0 dX12_potOf_77 rfl rfl ?_ | refine x_aload_nN 0 dX12_potOf_77 rfl rfl ?_
  refine x_iload_n 1 dX12_potOf_78 rfl rfl ?_
  refine x_iload_n 2 dX12_potOf_79 rfl rfl ?_
  refine x_iconst (v := 1) dX12_potOf_80 rfl ?_
  refine x_isub dX12_potOf_81 ?_
  refine x_cV1 (As := [.int _, .int _]) (ct_of_w ok (w := 2) (by omega) (by omega) rfl) vX12_101 rfl (x_recv (by with_reducible repeat first | assumption | exact mH_0 ok | exact mH_1 | exact hset_s | refine mH_o (by first | assumption | exact nA ok (by omega) (by omega) (by omega)) (by first | assumption | exact nA ok (by omega) (by omega) (by omega)) ?_ | refine hget_n (by first | assumption | exact Ne.symm (by assumption) | exact nA ok (by omega) (by omega) (by omega)) ?_) rfl) rfl ⟨ble rfl, ble rfl⟩ (ble rfl) dX12_potOf_82 rfl ?_
  refine x_iret rfl dX12_potOf_85 ?_
  refine ⟨congrArg (fun z => some (Value.int z)) ?_, rfl⟩
  exact congrArg N (by omega)
set_option maxRecDepth 100000 in
set_option maxHeartbeats 1000000 in
theorem ct_potOf_4 {l : Launch} {G : Gl} {h : Hp} {sv rem typ err lin why wha beh its siz att wro tol : Int32} {N : Nat → Int32} (ok : Ok G) {ns np no : Nat} (A : RowA N ns np no) {i : Nat} (hi : i < np) : CtR l G mX12_potOf 8 [.ref (Ad G 20), .int (nI i), .int (nI 4)] (mH G h (eMd G sv rem typ err lin why wha beh its siz att wro tol) N) (some (.int (tlP (kOf (N (60 + 8 * i))) (N (67 + 8 * i)) (N (61 + 8 * i)) (N (62 + 8 * i)) (N (63 + 8 * i)) (N (64 + 8 * i)) (N (66 + 8 * i)) (nI 4)))) (mH G h (eMd G sv rem typ err lin why wha beh its siz att wro tol) N) := by
  obtain ⟨a2, a3, a4, b2, b3, b4, AP, AO⟩ := A
  have P := AP i hi
  obtain ⟨hK, ⟨g, hg, hg1, hg9⟩, ⟨b, hb, hb2⟩, ⟨t, ht, ht9⟩, -⟩ := id P
  have hq := mis_e _ hK.2 b (by omega)
  rw [← hb] at hq
  have hq0 := mis0 hK.2 hq
  refine Ct.of (L := [(0, _), (1, _), (2, _)]) (by decide) (ble rfl) rfl ?_
  first | refine x_aload_n 0 dX12_potOf_0 rfl rfl ?_ | refine x_aload_nN 0 dX12_potOf_0 rfl rfl ?_
  refine x_iload_n 1 dX12_potOf_1 rfl rfl ?_
  refine x_cV1 (As := [.int _]) (ct_isPot_in ok a3 b3 hi) vX12_129 rfl (x_recv (by with_reducible repeat first | assumption | exact mH_0 ok | exact mH_1 | exact hset_s | refine mH_o (by first | assumption | exact nA ok (by omega) (by omega) (by omega)) (by first | assumption | exact nA ok (by omega) (by omega) (by omega)) ?_ | refine hget_n (by first | assumption | exact Ne.symm (by assumption) | exact nA ok (by omega) (by omega) (by omega)) ?_) rfl) rfl ⟨ble rfl, ble rfl⟩ (ble rfl) dX12_potOf_2 rfl ?_
  refine x_if_ne 10 dX12_potOf_5 (by decide) (fun _ => ?_) (fun z => by first | exact absurd (show ¬ (1 : Int32) = 0 by decide) z | exact absurd z (show ¬ (1 : Int32) = 0 by decide))
  refine x_iload_n 2 dX12_potOf_10 rfl rfl ?_
  refine x_tableIn 77 dX12_potOf_11 (by decide) (by decide) (by rfl) (by decide) ?_
  first | refine x_aload_n 0 dX12_potOf_77 rfl rfl ?_ | refine x_aload_nN 0 dX12_potOf_77 rfl rfl ?_
  refine x_iload_n 1 dX12_potOf_78 rfl rfl ?_
  refine x_iload_n 2 dX12_potOf_79 rfl rfl ?_
  refine x_iconst (v := 1) dX12_potOf_80 rfl ?_
  refine x_isub dX12_potOf_81 ?_
  refine x_cV1 (As := [.int _, .int _]) (ct_of_w ok (w := 3) (by omega) (by omega) rfl) vX12_101 rfl (x_recv (by with_reducible repeat first | assumption | exact mH_0 ok | exact mH_1 | exact hset_s | refine mH_o (by first | assumption | exact nA ok (by omega) (by omega) (by omega)) (by first | assumption | exact nA ok (by omega) (by omega) (by omega)) ?_ | refine hget_n (by first | assumption | exact Ne.symm (by assumption) | exact nA ok (by omega) (by omega) (by omega)) ?_) rfl) rfl ⟨ble rfl, ble rfl⟩ (ble rfl) dX12_potOf_82 rfl ?_
  refine x_iret rfl dX12_potOf_85 ?_
  refine ⟨congrArg (fun z => some (Value.int z)) ?_, rfl⟩
  exact congrArg N (by omega)
set_option maxRecDepth 100000 in
set_option maxHeartbeats 1000000 in
theorem ct_potOf_5 {l : Launch} {G : Gl} {h : Hp} {sv rem typ err lin why wha beh its siz att wro tol : Int32} {N : Nat → Int32} (ok : Ok G) {ns np no : Nat} (A : RowA N ns np no) {i : Nat} (hi : i < np) : CtR l G mX12_potOf 8 [.ref (Ad G 20), .int (nI i), .int (nI 5)] (mH G h (eMd G sv rem typ err lin why wha beh its siz att wro tol) N) (some (.int (tlP (kOf (N (60 + 8 * i))) (N (67 + 8 * i)) (N (61 + 8 * i)) (N (62 + 8 * i)) (N (63 + 8 * i)) (N (64 + 8 * i)) (N (66 + 8 * i)) (nI 5)))) (mH G h (eMd G sv rem typ err lin why wha beh its siz att wro tol) N) := by
  obtain ⟨a2, a3, a4, b2, b3, b4, AP, AO⟩ := A
  have P := AP i hi
  obtain ⟨hK, ⟨g, hg, hg1, hg9⟩, ⟨b, hb, hb2⟩, ⟨t, ht, ht9⟩, -⟩ := id P
  have hq := mis_e _ hK.2 b (by omega)
  rw [← hb] at hq
  have hq0 := mis0 hK.2 hq
  refine Ct.of (L := [(0, _), (1, _), (2, _)]) (by decide) (ble rfl) rfl ?_
  first | refine x_aload_n 0 dX12_potOf_0 rfl rfl ?_ | refine x_aload_nN 0 dX12_potOf_0 rfl rfl ?_
  refine x_iload_n 1 dX12_potOf_1 rfl rfl ?_
  refine x_cV1 (As := [.int _]) (ct_isPot_in ok a3 b3 hi) vX12_129 rfl (x_recv (by with_reducible repeat first | assumption | exact mH_0 ok | exact mH_1 | exact hset_s | refine mH_o (by first | assumption | exact nA ok (by omega) (by omega) (by omega)) (by first | assumption | exact nA ok (by omega) (by omega) (by omega)) ?_ | refine hget_n (by first | assumption | exact Ne.symm (by assumption) | exact nA ok (by omega) (by omega) (by omega)) ?_) rfl) rfl ⟨ble rfl, ble rfl⟩ (ble rfl) dX12_potOf_2 rfl ?_
  refine x_if_ne 10 dX12_potOf_5 (by decide) (fun _ => ?_) (fun z => by first | exact absurd (show ¬ (1 : Int32) = 0 by decide) z | exact absurd z (show ¬ (1 : Int32) = 0 by decide))
  refine x_iload_n 2 dX12_potOf_10 rfl rfl ?_
  refine x_tableIn 77 dX12_potOf_11 (by decide) (by decide) (by rfl) (by decide) ?_
  first | refine x_aload_n 0 dX12_potOf_77 rfl rfl ?_ | refine x_aload_nN 0 dX12_potOf_77 rfl rfl ?_
  refine x_iload_n 1 dX12_potOf_78 rfl rfl ?_
  refine x_iload_n 2 dX12_potOf_79 rfl rfl ?_
  refine x_iconst (v := 1) dX12_potOf_80 rfl ?_
  refine x_isub dX12_potOf_81 ?_
  refine x_cV1 (As := [.int _, .int _]) (ct_of_w ok (w := 4) (by omega) (by omega) rfl) vX12_101 rfl (x_recv (by with_reducible repeat first | assumption | exact mH_0 ok | exact mH_1 | exact hset_s | refine mH_o (by first | assumption | exact nA ok (by omega) (by omega) (by omega)) (by first | assumption | exact nA ok (by omega) (by omega) (by omega)) ?_ | refine hget_n (by first | assumption | exact Ne.symm (by assumption) | exact nA ok (by omega) (by omega) (by omega)) ?_) rfl) rfl ⟨ble rfl, ble rfl⟩ (ble rfl) dX12_potOf_82 rfl ?_
  refine x_iret rfl dX12_potOf_85 ?_
  refine ⟨congrArg (fun z => some (Value.int z)) ?_, rfl⟩
  exact congrArg N (by omega)
set_option maxRecDepth 100000 in
set_option maxHeartbeats 1000000 in
theorem ct_potOf_6 {l : Launch} {G : Gl} {h : Hp} {sv rem typ err lin why wha beh its siz att wro tol : Int32} {N : Nat → Int32} (ok : Ok G) {ns np no : Nat} (A : RowA N ns np no) {i : Nat} (hi : i < np) : CtR l G mX12_potOf 8 [.ref (Ad G 20), .int (nI i), .int (nI 6)] (mH G h (eMd G sv rem typ err lin why wha beh its siz att wro tol) N) (some (.int (tlP (kOf (N (60 + 8 * i))) (N (67 + 8 * i)) (N (61 + 8 * i)) (N (62 + 8 * i)) (N (63 + 8 * i)) (N (64 + 8 * i)) (N (66 + 8 * i)) (nI 6)))) (mH G h (eMd G sv rem typ err lin why wha beh its siz att wro tol) N) := by
  obtain ⟨a2, a3, a4, b2, b3, b4, AP, AO⟩ := A
  have P := AP i hi
  obtain ⟨hK, ⟨g, hg, hg1, hg9⟩, ⟨b, hb, hb2⟩, ⟨t, ht, ht9⟩, -⟩ := id P
  have hq := mis_e _ hK.2 b (by omega)
  rw [← hb] at hq
  have hq0 := mis0 hK.2 hq
  refine Ct.of (L := [(0, _), (1, _), (2, _)]) (by decide) (ble rfl) rfl ?_
  first | refine x_aload_n 0 dX12_potOf_0 rfl rfl ?_ | refine x_aload_nN 0 dX12_potOf_0 rfl rfl ?_
  refine x_iload_n 1 dX12_potOf_1 rfl rfl ?_
  refine x_cV1 (As := [.int _]) (ct_isPot_in ok a3 b3 hi) vX12_129 rfl (x_recv (by with_reducible repeat first | assumption | exact mH_0 ok | exact mH_1 | exact hset_s | refine mH_o (by first | assumption | exact nA ok (by omega) (by omega) (by omega)) (by first | assumption | exact nA ok (by omega) (by omega) (by omega)) ?_ | refine hget_n (by first | assumption | exact Ne.symm (by assumption) | exact nA ok (by omega) (by omega) (by omega)) ?_) rfl) rfl ⟨ble rfl, ble rfl⟩ (ble rfl) dX12_potOf_2 rfl ?_
  refine x_if_ne 10 dX12_potOf_5 (by decide) (fun _ => ?_) (fun z => by first | exact absurd (show ¬ (1 : Int32) = 0 by decide) z | exact absurd z (show ¬ (1 : Int32) = 0 by decide))
  refine x_iload_n 2 dX12_potOf_10 rfl rfl ?_
  refine x_tableIn 86 dX12_potOf_11 (by decide) (by decide) (by rfl) (by decide) ?_
  first | refine x_aload_n 0 dX12_potOf_86 rfl rfl ?_ | refine x_aload_nN 0 dX12_potOf_86 rfl rfl ?_
  refine x_iload_n 1 dX12_potOf_87 rfl rfl ?_
  refine x_cV1 (As := [.int _]) (ct_X12_missingBlows ok (by omega) hK) vX12_147 rfl (x_recv (by with_reducible repeat first | assumption | exact mH_0 ok | exact mH_1 | exact hset_s | refine mH_o (by first | assumption | exact nA ok (by omega) (by omega) (by omega)) (by first | assumption | exact nA ok (by omega) (by omega) (by omega)) ?_ | refine hget_n (by first | assumption | exact Ne.symm (by assumption) | exact nA ok (by omega) (by omega) (by omega)) ?_) rfl) rfl ⟨ble rfl, ble rfl⟩ (ble rfl) dX12_potOf_88 rfl ?_
  refine x_if_ne 98 dX12_potOf_91 (by decide) (fun c91 => ?_) (fun c91 => ?_)
  · refine x_iconst (v := 0) dX12_potOf_98 rfl ?_
    refine x_iret rfl dX12_potOf_99 ?_
    refine ⟨congrArg (fun z => some (Value.int z)) ?_, rfl⟩
    show _ = smoothK (kOf (N (60 + 8 * i))) (N (62 + 8 * i))
    first | exact (smoothK_1 (hq0.mp c91)).symm | exact (Classical.not_not.mp (fun y => c91 (hq0.mpr y))).symm
  · refine x_iconst (v := 1) dX12_potOf_94 rfl ?_
    refine x_goto 99 dX12_potOf_95 (by decide) ?_
    refine x_iret rfl dX12_potOf_99 ?_
    refine ⟨congrArg (fun z => some (Value.int z)) ?_, rfl⟩
    show _ = smoothK (kOf (N (60 + 8 * i))) (N (62 + 8 * i))
    first | exact (smoothK_1 (hq0.mp c91)).symm | exact (Classical.not_not.mp (fun y => c91 (hq0.mpr y))).symm
set_option maxRecDepth 100000 in
set_option maxHeartbeats 1000000 in
theorem ct_potOf_7 {l : Launch} {G : Gl} {h : Hp} {sv rem typ err lin why wha beh its siz att wro tol : Int32} {N : Nat → Int32} (ok : Ok G) {ns np no : Nat} (A : RowA N ns np no) {i : Nat} (hi : i < np) : CtR l G mX12_potOf 8 [.ref (Ad G 20), .int (nI i), .int (nI 7)] (mH G h (eMd G sv rem typ err lin why wha beh its siz att wro tol) N) (some (.int (tlP (kOf (N (60 + 8 * i))) (N (67 + 8 * i)) (N (61 + 8 * i)) (N (62 + 8 * i)) (N (63 + 8 * i)) (N (64 + 8 * i)) (N (66 + 8 * i)) (nI 7)))) (mH G h (eMd G sv rem typ err lin why wha beh its siz att wro tol) N) := by
  obtain ⟨a2, a3, a4, b2, b3, b4, AP, AO⟩ := A
  have P := AP i hi
  obtain ⟨hK, ⟨g, hg, hg1, hg9⟩, ⟨b, hb, hb2⟩, ⟨t, ht, ht9⟩, -⟩ := id P
  have hq := mis_e _ hK.2 b (by omega)
  rw [← hb] at hq
  have hq0 := mis0 hK.2 hq
  refine Ct.of (L := [(0, _), (1, _), (2, _)]) (by decide) (ble rfl) rfl ?_
  first | refine x_aload_n 0 dX12_potOf_0 rfl rfl ?_ | refine x_aload_nN 0 dX12_potOf_0 rfl rfl ?_
  refine x_iload_n 1 dX12_potOf_1 rfl rfl ?_
  refine x_cV1 (As := [.int _]) (ct_isPot_in ok a3 b3 hi) vX12_129 rfl (x_recv (by with_reducible repeat first | assumption | exact mH_0 ok | exact mH_1 | exact hset_s | refine mH_o (by first | assumption | exact nA ok (by omega) (by omega) (by omega)) (by first | assumption | exact nA ok (by omega) (by omega) (by omega)) ?_ | refine hget_n (by first | assumption | exact Ne.symm (by assumption) | exact nA ok (by omega) (by omega) (by omega)) ?_) rfl) rfl ⟨ble rfl, ble rfl⟩ (ble rfl) dX12_potOf_2 rfl ?_
  refine x_if_ne 10 dX12_potOf_5 (by decide) (fun _ => ?_) (fun z => by first | exact absurd (show ¬ (1 : Int32) = 0 by decide) z | exact absurd z (show ¬ (1 : Int32) = 0 by decide))
  refine x_iload_n 2 dX12_potOf_10 rfl rfl ?_
  refine x_tableIn 100 dX12_potOf_11 (by decide) (by decide) (by rfl) (by decide) ?_
  first | refine x_aload_n 0 dX12_potOf_100 rfl rfl ?_ | refine x_aload_nN 0 dX12_potOf_100 rfl rfl ?_
  refine x_iload_n 1 dX12_potOf_101 rfl rfl ?_
  refine x_cV1 (As := [.int _]) (ct_X12_isCracked ok (by omega) P) vX12_135 rfl (x_recv (by with_reducible repeat first | assumption | exact mH_0 ok | exact mH_1 | exact hset_s | refine mH_o (by first | assumption | exact nA ok (by omega) (by omega) (by omega)) (by first | assumption | exact nA ok (by omega) (by omega) (by omega)) ?_ | refine hget_n (by first | assumption | exact Ne.symm (by assumption) | exact nA ok (by omega) (by omega) (by omega)) ?_) rfl) rfl ⟨ble rfl, ble rfl⟩ (ble rfl) dX12_potOf_102 rfl ?_
  refine x_if_eq 112 dX12_potOf_105 (by decide) (fun c105 => ?_) (fun c105 => ?_)
  · refine x_iconst (v := 0) dX12_potOf_112 rfl ?_
    refine x_iret rfl dX12_potOf_113 ?_
    refine ⟨congrArg (fun z => some (Value.int z)) ?_, rfl⟩
    show _ = crackedK (kOf (N (60 + 8 * i))) (N (61 + 8 * i)) (N (62 + 8 * i))
    first | exact (crackedK_1 c105).symm | exact c105.symm
  · refine x_iconst (v := 1) dX12_potOf_108 rfl ?_
    refine x_goto 113 dX12_potOf_109 (by decide) ?_
    refine x_iret rfl dX12_potOf_113 ?_
    refine ⟨congrArg (fun z => some (Value.int z)) ?_, rfl⟩
    show _ = crackedK (kOf (N (60 + 8 * i))) (N (61 + 8 * i)) (N (62 + 8 * i))
    first | exact (crackedK_1 c105).symm | exact c105.symm
set_option maxRecDepth 100000 in
set_option maxHeartbeats 1000000 in
theorem ct_potOf_8 {l : Launch} {G : Gl} {h : Hp} {sv rem typ err lin why wha beh its siz att wro tol : Int32} {N : Nat → Int32} (ok : Ok G) {ns np no : Nat} (A : RowA N ns np no) {i : Nat} (hi : i < np) : CtR l G mX12_potOf 8 [.ref (Ad G 20), .int (nI i), .int (nI 8)] (mH G h (eMd G sv rem typ err lin why wha beh its siz att wro tol) N) (some (.int (tlP (kOf (N (60 + 8 * i))) (N (67 + 8 * i)) (N (61 + 8 * i)) (N (62 + 8 * i)) (N (63 + 8 * i)) (N (64 + 8 * i)) (N (66 + 8 * i)) (nI 8)))) (mH G h (eMd G sv rem typ err lin why wha beh its siz att wro tol) N) := by
  obtain ⟨a2, a3, a4, b2, b3, b4, AP, AO⟩ := A
  have P := AP i hi
  obtain ⟨hK, ⟨g, hg, hg1, hg9⟩, ⟨b, hb, hb2⟩, ⟨t, ht, ht9⟩, -⟩ := id P
  have hq := mis_e _ hK.2 b (by omega)
  rw [← hb] at hq
  have hq0 := mis0 hK.2 hq
  refine Ct.of (L := [(0, _), (1, _), (2, _)]) (by decide) (ble rfl) rfl ?_
  first | refine x_aload_n 0 dX12_potOf_0 rfl rfl ?_ | refine x_aload_nN 0 dX12_potOf_0 rfl rfl ?_
  refine x_iload_n 1 dX12_potOf_1 rfl rfl ?_
  refine x_cV1 (As := [.int _]) (ct_isPot_in ok a3 b3 hi) vX12_129 rfl (x_recv (by with_reducible repeat first | assumption | exact mH_0 ok | exact mH_1 | exact hset_s | refine mH_o (by first | assumption | exact nA ok (by omega) (by omega) (by omega)) (by first | assumption | exact nA ok (by omega) (by omega) (by omega)) ?_ | refine hget_n (by first | assumption | exact Ne.symm (by assumption) | exact nA ok (by omega) (by omega) (by omega)) ?_) rfl) rfl ⟨ble rfl, ble rfl⟩ (ble rfl) dX12_potOf_2 rfl ?_
  refine x_if_ne 10 dX12_potOf_5 (by decide) (fun _ => ?_) (fun z => by first | exact absurd (show ¬ (1 : Int32) = 0 by decide) z | exact absurd z (show ¬ (1 : Int32) = 0 by decide))
  refine x_iload_n 2 dX12_potOf_10 rfl rfl ?_
  refine x_tableIn 114 dX12_potOf_11 (by decide) (by decide) (by rfl) (by decide) ?_
  first | refine x_aload_n 0 dX12_potOf_114 rfl rfl ?_ | refine x_aload_nN 0 dX12_potOf_114 rfl rfl ?_
  refine x_iload_n 1 dX12_potOf_115 rfl rfl ?_
  refine x_iload_n 2 dX12_potOf_116 rfl rfl ?_
  refine x_iconst (v := 2) dX12_potOf_117 rfl ?_
  refine x_isub dX12_potOf_118 ?_
  refine x_cV1 (As := [.int _, .int _]) (ct_of_w ok (w := 6) (by omega) (by omega) rfl) vX12_101 rfl (x_recv (by with_reducible repeat first | assumption | exact mH_0 ok | exact mH_1 | exact hset_s | refine mH_o (by first | assumption | exact nA ok (by omega) (by omega) (by omega)) (by first | assumption | exact nA ok (by omega) (by omega) (by omega)) ?_ | refine hget_n (by first | assumption | exact Ne.symm (by assumption) | exact nA ok (by omega) (by omega) (by omega)) ?_) rfl) rfl ⟨ble rfl, ble rfl⟩ (ble rfl) dX12_potOf_119 rfl ?_
  refine x_iret rfl dX12_potOf_122 ?_
  refine ⟨congrArg (fun z => some (Value.int z)) ?_, rfl⟩
  exact congrArg N (by omega)
set_option maxRecDepth 100000 in
set_option maxHeartbeats 1000000 in
theorem ct_potOf_9 {l : Launch} {G : Gl} {h : Hp} {sv rem typ err lin why wha beh its siz att wro tol : Int32} {N : Nat → Int32} (ok : Ok G) {ns np no : Nat} (A : RowA N ns np no) {i : Nat} (hi : i < np) : CtR l G mX12_potOf 8 [.ref (Ad G 20), .int (nI i), .int (nI 9)] (mH G h (eMd G sv rem typ err lin why wha beh its siz att wro tol) N) (some (.int (tlP (kOf (N (60 + 8 * i))) (N (67 + 8 * i)) (N (61 + 8 * i)) (N (62 + 8 * i)) (N (63 + 8 * i)) (N (64 + 8 * i)) (N (66 + 8 * i)) (nI 9)))) (mH G h (eMd G sv rem typ err lin why wha beh its siz att wro tol) N) := by
  obtain ⟨a2, a3, a4, b2, b3, b4, AP, AO⟩ := A
  have P := AP i hi
  obtain ⟨hK, ⟨g, hg, hg1, hg9⟩, ⟨b, hb, hb2⟩, ⟨t, ht, ht9⟩, -⟩ := id P
  have hq := mis_e _ hK.2 b (by omega)
  rw [← hb] at hq
  have hq0 := mis0 hK.2 hq
  refine Ct.of (L := [(0, _), (1, _), (2, _)]) (by decide) (ble rfl) rfl ?_
  first | refine x_aload_n 0 dX12_potOf_0 rfl rfl ?_ | refine x_aload_nN 0 dX12_potOf_0 rfl rfl ?_
  refine x_iload_n 1 dX12_potOf_1 rfl rfl ?_
  refine x_cV1 (As := [.int _]) (ct_isPot_in ok a3 b3 hi) vX12_129 rfl (x_recv (by with_reducible repeat first | assumption | exact mH_0 ok | exact mH_1 | exact hset_s | refine mH_o (by first | assumption | exact nA ok (by omega) (by omega) (by omega)) (by first | assumption | exact nA ok (by omega) (by omega) (by omega)) ?_ | refine hget_n (by first | assumption | exact Ne.symm (by assumption) | exact nA ok (by omega) (by omega) (by omega)) ?_) rfl) rfl ⟨ble rfl, ble rfl⟩ (ble rfl) dX12_potOf_2 rfl ?_
  refine x_if_ne 10 dX12_potOf_5 (by decide) (fun _ => ?_) (fun z => by first | exact absurd (show ¬ (1 : Int32) = 0 by decide) z | exact absurd z (show ¬ (1 : Int32) = 0 by decide))
  refine x_iload_n 2 dX12_potOf_10 rfl rfl ?_
  refine x_tableIn 114 dX12_potOf_11 (by decide) (by decide) (by rfl) (by decide) ?_
  first | refine x_aload_n 0 dX12_potOf_114 rfl rfl ?_ | refine x_aload_nN 0 dX12_potOf_114 rfl rfl ?_
  refine x_iload_n 1 dX12_potOf_115 rfl rfl ?_
  refine x_iload_n 2 dX12_potOf_116 rfl rfl ?_
  refine x_iconst (v := 2) dX12_potOf_117 rfl ?_
  refine x_isub dX12_potOf_118 ?_
  refine x_cV1 (As := [.int _, .int _]) (ct_of_w ok (w := 7) (by omega) (by omega) rfl) vX12_101 rfl (x_recv (by with_reducible repeat first | assumption | exact mH_0 ok | exact mH_1 | exact hset_s | refine mH_o (by first | assumption | exact nA ok (by omega) (by omega) (by omega)) (by first | assumption | exact nA ok (by omega) (by omega) (by omega)) ?_ | refine hget_n (by first | assumption | exact Ne.symm (by assumption) | exact nA ok (by omega) (by omega) (by omega)) ?_) rfl) rfl ⟨ble rfl, ble rfl⟩ (ble rfl) dX12_potOf_119 rfl ?_
  refine x_iret rfl dX12_potOf_122 ?_
  refine ⟨congrArg (fun z => some (Value.int z)) ?_, rfl⟩
  exact congrArg N (by omega)
theorem tlP_o {k : Nat} {sh g b t m o y : Int32} (h : y.toInt < 0 ∨ (9 : Int) < y.toInt) : tlP k sh g b t m o y = -2 := by
  have t1 : Int32.toInt 1 = 1 := rfl
  have t2 : Int32.toInt 2 = 2 := rfl
  have t3 : Int32.toInt 3 = 3 := rfl
  have t4 : Int32.toInt 4 = 4 := rfl
  have t5 : Int32.toInt 5 = 5 := rfl
  have t6 : Int32.toInt 6 = 6 := rfl
  have t7 : Int32.toInt 7 = 7 := rfl
  have t8 : Int32.toInt 8 = 8 := rfl
  have t9 : Int32.toInt 9 = 9 := rfl
  unfold tlP
  (repeat' split) <;> first | rfl | (exfalso; subst_vars; simp only [Int32.toInt_zero, t1, t2, t3, t4, t5, t6, t7, t8, t9] at h; omega)
set_option maxRecDepth 100000 in
set_option maxHeartbeats 1000000 in
theorem ct_potOf_n {l : Launch} {G : Gl} {h : Hp} {sv rem typ err lin why wha beh its siz att wro tol : Int32} {N : Nat → Int32} (ok : Ok G) {ns np no : Nat} (A : RowA N ns np no) {i : Nat} (hi : i < np) (y : Int32) (hy : y.toInt < 0 ∨ (9 : Int) < y.toInt) : CtR l G mX12_potOf 8 [.ref (Ad G 20), .int (nI i), .int y] (mH G h (eMd G sv rem typ err lin why wha beh its siz att wro tol) N) (some (.int (tlP (kOf (N (60 + 8 * i))) (N (67 + 8 * i)) (N (61 + 8 * i)) (N (62 + 8 * i)) (N (63 + 8 * i)) (N (64 + 8 * i)) (N (66 + 8 * i)) y))) (mH G h (eMd G sv rem typ err lin why wha beh its siz att wro tol) N) := by
  obtain ⟨a2, a3, a4, b2, b3, b4, AP, AO⟩ := A
  refine Ct.of (L := [(0, _), (1, _), (2, _)]) (by decide) (ble rfl) rfl ?_
  first | refine x_aload_n 0 dX12_potOf_0 rfl rfl ?_ | refine x_aload_nN 0 dX12_potOf_0 rfl rfl ?_
  refine x_iload_n 1 dX12_potOf_1 rfl rfl ?_
  refine x_cV1 (As := [.int _]) (ct_isPot_in ok a3 b3 hi) vX12_129 rfl (x_recv (by with_reducible repeat first | assumption | exact mH_0 ok | exact mH_1 | exact hset_s | refine mH_o (by first | assumption | exact nA ok (by omega) (by omega) (by omega)) (by first | assumption | exact nA ok (by omega) (by omega) (by omega)) ?_ | refine hget_n (by first | assumption | exact Ne.symm (by assumption) | exact nA ok (by omega) (by omega) (by omega)) ?_) rfl) rfl ⟨ble rfl, ble rfl⟩ (ble rfl) dX12_potOf_2 rfl ?_
  refine x_if_ne 10 dX12_potOf_5 (by decide) (fun _ => ?_) (fun z => by first | exact absurd (show ¬ (1 : Int32) = 0 by decide) z | exact absurd z (show ¬ (1 : Int32) = 0 by decide))
  refine x_iload_n 2 dX12_potOf_10 rfl rfl ?_
  refine x_tableOut 123 dX12_potOf_11 hy (by decide) ?_
  refine x_bipush (v := -2) dX12_potOf_123 rfl ?_
  refine x_iret rfl dX12_potOf_125 ?_
  rw [tlP_o hy]
  exact ⟨rfl, rfl⟩
set_option maxRecDepth 100000 in
set_option maxHeartbeats 1000000 in
theorem ct_potOf_out {l : Launch} {G : Gl} {h : Hp} {sv rem typ err lin why wha beh its siz att wro tol : Int32} {N : Nat → Int32} (ok : Ok G) {ns np no : Nat} (A : RowA N ns np no) (x y : Int32) (hx : ¬ (0 ≤ x ∧ x < N 3)) : CtR l G mX12_potOf 8 [.ref (Ad G 20), .int x, .int y] (mH G h (eMd G sv rem typ err lin why wha beh its siz att wro tol) N) (some (.int (-1))) (mH G h (eMd G sv rem typ err lin why wha beh its siz att wro tol) N) := by
  obtain ⟨a2, a3, a4, b2, b3, b4, AP, AO⟩ := A
  refine Ct.of (L := [(0, _), (1, _), (2, _)]) (by decide) (ble rfl) rfl ?_
  first | refine x_aload_n 0 dX12_potOf_0 rfl rfl ?_ | refine x_aload_nN 0 dX12_potOf_0 rfl rfl ?_
  refine x_iload_n 1 dX12_potOf_1 rfl rfl ?_
  refine x_cV1 (As := [.int _]) (ct_isPot_out ok a3 b3 hx) vX12_129 rfl (x_recv (by with_reducible repeat first | assumption | exact mH_0 ok | exact mH_1 | exact hset_s | refine mH_o (by first | assumption | exact nA ok (by omega) (by omega) (by omega)) (by first | assumption | exact nA ok (by omega) (by omega) (by omega)) ?_ | refine hget_n (by first | assumption | exact Ne.symm (by assumption) | exact nA ok (by omega) (by omega) (by omega)) ?_) rfl) rfl ⟨ble rfl, ble rfl⟩ (ble rfl) dX12_potOf_2 rfl ?_
  refine x_if_ne 10 dX12_potOf_5 (by decide) (fun z => by first | exact absurd z (fun z => z rfl) | exact absurd (fun z => z rfl) z) (fun _ => ?_)
  refine x_iconst (v := -1) dX12_potOf_8 rfl ?_
  refine x_iret rfl dX12_potOf_9 ?_
  exact ⟨rfl, rfl⟩
set_option maxRecDepth 100000 in
set_option maxHeartbeats 1000000 in
theorem ct_X12_meanSound {l : Launch} {G : Gl} {h : Hp} {sv rem typ err lin why wha beh its siz att wro tol : Int32} {N : Nat → Int32} (ok : Ok G) {ns np no : Nat} (A : RowA N ns np no) (hf : ¬ sm (fun i => if soldK (N (66 + 8 * i)) = 0 then (1 : Int32) else 0) np = 0 → vf_n32 (FP.fdiv (FP.i2f (sm (fun i => (if soldK (N (66 + 8 * i)) = 0 then (1 : Int32) else 0) * ringK (kOf (N (60 + 8 * i))) (N (61 + 8 * i)) (N (62 + 8 * i)) (N (63 + 8 * i))) np)) (FP.i2f (sm (fun i => if soldK (N (66 + 8 * i)) = 0 then (1 : Int32) else 0) np)))) : CtR l G mX12_meanSound 9 [.ref (Ad G 20)] (mH G h (eMd G sv rem typ err lin why wha beh its siz att wro tol) N) (some (.float (if sm (fun i => if soldK (N (66 + 8 * i)) = 0 then (1 : Int32) else 0) np = 0 then 0 else FP.fdiv (FP.i2f (sm (fun i => (if soldK (N (66 + 8 * i)) = 0 then (1 : Int32) else 0) * ringK (kOf (N (60 + 8 * i))) (N (61 + 8 * i)) (N (62 + 8 * i)) (N (63 + 8 * i))) np)) (FP.i2f (sm (fun i => if soldK (N (66 + 8 * i)) = 0 then (1 : Int32) else 0) np))))) (mH G h (eMd G sv rem typ err lin why wha beh its siz att wro tol) N) := by
  have A0 := A
  obtain ⟨a2, a3, a4, b2, b3, b4, AP, AO⟩ := A
  refine Ct.of (L := [(0, _)]) (by decide) (ble rfl) rfl ?_
  first | refine x_aload_n 0 dX12_meanSound_0 rfl rfl ?_ | refine x_aload_nN 0 dX12_meanSound_0 rfl rfl ?_
  refine x_iconst (v := 0) dX12_meanSound_1 rfl ?_
  refine x_cV1 (As := [.int _]) (ct_ofPots_0 ok A0) vX12_209 rfl (x_recv (by with_reducible repeat first | assumption | exact mH_0 ok | exact mH_1 | exact hset_s | refine mH_o (by first | assumption | exact nA ok (by omega) (by omega) (by omega)) (by first | assumption | exact nA ok (by omega) (by omega) (by omega)) ?_ | refine hget_n (by first | assumption | exact Ne.symm (by assumption) | exact nA ok (by omega) (by omega) (by omega)) ?_) rfl) rfl ⟨ble rfl, ble rfl⟩ (ble rfl) dX12_meanSound_2 rfl ?_
  refine x_istore_n (L' := [(1, _), (0, _)]) dX12_meanSound_5 rfl (ble rfl) rfl ?_
  refine x_iload_n 0 dX12_meanSound_6 rfl rfl ?_
  refine x_if_ne 14 dX12_meanSound_7 (by decide) (fun c7 => ?_) (fun c7 => ?_)
  · first | refine x_aload_n 1 dX12_meanSound_14 rfl rfl ?_ | refine x_aload_nN 1 dX12_meanSound_14 rfl rfl ?_
    refine x_iconst (v := 3) dX12_meanSound_15 rfl ?_
    refine x_cV1 (As := [.int _]) (ct_ofPots_3 ok A0) vX12_209 rfl (x_recv (by with_reducible repeat first | assumption | exact mH_0 ok | exact mH_1 | exact hset_s | refine mH_o (by first | assumption | exact nA ok (by omega) (by omega) (by omega)) (by first | assumption | exact nA ok (by omega) (by omega) (by omega)) ?_ | refine hget_n (by first | assumption | exact Ne.symm (by assumption) | exact nA ok (by omega) (by omega) (by omega)) ?_) rfl) rfl ⟨ble rfl, ble rfl⟩ (ble rfl) dX12_meanSound_16 rfl ?_
    refine x_i2f dX12_meanSound_19 ?_
    refine x_iload_n 0 dX12_meanSound_20 rfl rfl ?_
    refine x_i2f dX12_meanSound_21 ?_
    refine x_fdiv dX12_meanSound_22 (by exact hf c7) ?_
    refine x_fret rfl dX12_meanSound_23 ?_
    refine ⟨congrArg (fun z => some (Value.float z)) ?_, rfl⟩
    first | exact (if_pos c7).symm | exact (if_neg c7).symm
  · refine x_fconst0 dX12_meanSound_10 ?_
    refine x_goto 23 dX12_meanSound_11 (by decide) ?_
    refine x_fret rfl dX12_meanSound_23 ?_
    refine ⟨congrArg (fun z => some (Value.float z)) ?_, rfl⟩
    first | exact (if_pos c7).symm | exact (if_neg c7).symm
set_option maxRecDepth 100000 in
set_option maxHeartbeats 1000000 in
theorem ct_X12_soldShare {l : Launch} {G : Gl} {h : Hp} {sv rem typ err lin why wha beh its siz att wro tol : Int32} {N : Nat → Int32} (ok : Ok G) {ns np no : Nat} (A : RowA N ns np no) (hf : ¬ N 3 = 0 → vf_n64 (FP.ddiv (FP.i2d (N 3 - sm (fun i => if soldK (N (66 + 8 * i)) = 0 then (1 : Int32) else 0) np)) (FP.i2d (N 3)))) : CtR l G mX12_soldShare 9 [.ref (Ad G 20)] (mH G h (eMd G sv rem typ err lin why wha beh its siz att wro tol) N) (some (.double (if N 3 = 0 then 0 else FP.ddiv (FP.i2d (N 3 - sm (fun i => if soldK (N (66 + 8 * i)) = 0 then (1 : Int32) else 0) np)) (FP.i2d (N 3))))) (mH G h (eMd G sv rem typ err lin why wha beh its siz att wro tol) N) := by
  have A0 := A
  obtain ⟨a2, a3, a4, b2, b3, b4, AP, AO⟩ := A
  refine Ct.of (L := [(0, _)]) (by decide) (ble rfl) rfl ?_
  first | refine x_aload_n 0 dX12_soldShare_0 rfl rfl ?_ | refine x_aload_nN 0 dX12_soldShare_0 rfl rfl ?_
  refine x_get fX12_9 rfl dX12_soldShare_1 (by with_reducible repeat first | assumption | exact mH_0 ok | exact mH_1 | exact hset_s | refine mH_o (by first | assumption | exact nA ok (by omega) (by omega) (by omega)) (by first | assumption | exact nA ok (by omega) (by omega) (by omega)) ?_ | refine hget_n (by first | assumption | exact Ne.symm (by assumption) | exact nA ok (by omega) (by omega) (by omega)) ?_) (by rfl) ?_
  refine x_iconst (v := 3) dX12_soldShare_4 rfl ?_
  refine x_mald (i := 3) (by first | exact Eq.refl (nI _) | exact ix_p _ _ | exact ix_o _ _ | exact ix_s _ | exact ix_s1 _ _ | (rw [ix_s]; exact nI_add _ _) | exact nI_add _ 1 | exact nI_add _ 2 | exact nI_add _ 3 | exact nI_add _ 4 | (rw [ix_o0]; exact nI_add _ 3) | (rw [ix_o0]; exact nI_add _ 4) | (rw [ix_o0]; exact nI_add _ _) | (rw [ix_o0]; exact (nI_add _ 3).trans (congrArg nI (by omega))) | (rw [ix_o0]; exact (nI_add _ 4).trans (congrArg nI (by omega))) | exact (nI_add _ 1).trans (congrArg nI (by omega)) | exact (nI_add _ 2).trans (congrArg nI (by omega)) | exact (nI_add _ 3).trans (congrArg nI (by omega)) | exact (nI_add _ 4).trans (congrArg nI (by omega))) dX12_soldShare_5 (by omega) rfl ?_
  refine x_if_ne 13 dX12_soldShare_6 (by decide) (fun c6 => ?_) (fun c6 => ?_)
  · first | refine x_aload_n 0 dX12_soldShare_13 rfl rfl ?_ | refine x_aload_nN 0 dX12_soldShare_13 rfl rfl ?_
    refine x_get fX12_9 rfl dX12_soldShare_14 (by with_reducible repeat first | assumption | exact mH_0 ok | exact mH_1 | exact hset_s | refine mH_o (by first | assumption | exact nA ok (by omega) (by omega) (by omega)) (by first | assumption | exact nA ok (by omega) (by omega) (by omega)) ?_ | refine hget_n (by first | assumption | exact Ne.symm (by assumption) | exact nA ok (by omega) (by omega) (by omega)) ?_) (by rfl) ?_
    refine x_iconst (v := 3) dX12_soldShare_17 rfl ?_
    refine x_mald (i := 3) (by first | exact Eq.refl (nI _) | exact ix_p _ _ | exact ix_o _ _ | exact ix_s _ | exact ix_s1 _ _ | (rw [ix_s]; exact nI_add _ _) | exact nI_add _ 1 | exact nI_add _ 2 | exact nI_add _ 3 | exact nI_add _ 4 | (rw [ix_o0]; exact nI_add _ 3) | (rw [ix_o0]; exact nI_add _ 4) | (rw [ix_o0]; exact nI_add _ _) | (rw [ix_o0]; exact (nI_add _ 3).trans (congrArg nI (by omega))) | (rw [ix_o0]; exact (nI_add _ 4).trans (congrArg nI (by omega))) | exact (nI_add _ 1).trans (congrArg nI (by omega)) | exact (nI_add _ 2).trans (congrArg nI (by omega)) | exact (nI_add _ 3).trans (congrArg nI (by omega)) | exact (nI_add _ 4).trans (congrArg nI (by omega))) dX12_soldShare_18 (by omega) rfl ?_
    first | refine x_aload_n 0 dX12_soldShare_19 rfl rfl ?_ | refine x_aload_nN 0 dX12_soldShare_19 rfl rfl ?_
    refine x_iconst (v := 0) dX12_soldShare_20 rfl ?_
    refine x_cV1 (As := [.int _]) (ct_ofPots_0 ok A0) vX12_209 rfl (x_recv (by with_reducible repeat first | assumption | exact mH_0 ok | exact mH_1 | exact hset_s | refine mH_o (by first | assumption | exact nA ok (by omega) (by omega) (by omega)) (by first | assumption | exact nA ok (by omega) (by omega) (by omega)) ?_ | refine hget_n (by first | assumption | exact Ne.symm (by assumption) | exact nA ok (by omega) (by omega) (by omega)) ?_) rfl) rfl ⟨ble rfl, ble rfl⟩ (ble rfl) dX12_soldShare_21 rfl ?_
    refine x_isub dX12_soldShare_24 ?_
    refine x_i2d dX12_soldShare_25 ?_
    first | refine x_aload_n 0 dX12_soldShare_26 rfl rfl ?_ | refine x_aload_nN 0 dX12_soldShare_26 rfl rfl ?_
    refine x_get fX12_9 rfl dX12_soldShare_27 (by with_reducible repeat first | assumption | exact mH_0 ok | exact mH_1 | exact hset_s | refine mH_o (by first | assumption | exact nA ok (by omega) (by omega) (by omega)) (by first | assumption | exact nA ok (by omega) (by omega) (by omega)) ?_ | refine hget_n (by first | assumption | exact Ne.symm (by assumption) | exact nA ok (by omega) (by omega) (by omega)) ?_) (by rfl) ?_
    refine x_iconst (v := 3) dX12_soldShare_30 rfl ?_
    refine x_mald (i := 3) (by first | exact Eq.refl (nI _) | exact ix_p _ _ | exact ix_o _ _ | exact ix_s _ | exact ix_s1 _ _ | (rw [ix_s]; exact nI_add _ _) | exact nI_add _ 1 | exact nI_add _ 2 | exact nI_add _ 3 | exact nI_add _ 4 | (rw [ix_o0]; exact nI_add _ 3) | (rw [ix_o0]; exact nI_add _ 4) | (rw [ix_o0]; exact nI_add _ _) | (rw [ix_o0]; exact (nI_add _ 3).trans (congrArg nI (by omega))) | (rw [ix_o0]; exact (nI_add _ 4).trans (congrArg nI (by omega))) | exact (nI_add _ 1).trans (congrArg nI (by omega)) | exact (nI_add _ 2).trans (congrArg nI (by omega)) | exact (nI_add _ 3).trans (congrArg nI (by omega)) | exact (nI_add _ 4).trans (congrArg nI (by omega))) dX12_soldShare_31 (by omega) rfl ?_
    refine x_i2d dX12_soldShare_32 ?_
    refine x_ddiv dX12_soldShare_33 (by exact hf c6) ?_
    refine x_dret rfl dX12_soldShare_34 ?_
    refine ⟨congrArg (fun z => some (Value.double z)) ?_, rfl⟩
    first | exact (if_pos c6).symm | exact (if_neg c6).symm
  · refine x_dconst0 dX12_soldShare_9 ?_
    refine x_goto 34 dX12_soldShare_10 (by decide) ?_
    refine x_dret rfl dX12_soldShare_34 ?_
    refine ⟨congrArg (fun z => some (Value.double z)) ?_, rfl⟩
    first | exact (if_pos c6).symm | exact (if_neg c6).symm
