set_option maxRecDepth 100000 in
set_option maxHeartbeats 1000000 in
theorem ct_account_0 {l : Launch} {G : Gl} {h : Hp} {sv rem typ err lin why wha beh its siz att wro tol : Int32} {N : Nat → Int32} (ok : Ok G) {ns np no : Nat} (A : RowA N ns np no) : CtR l G mX12_account 9 [.ref (Ad G 20), .int (nI 0)] (mH G h (eMd G sv rem typ err lin why wha beh its siz att wro tol) N) (some (.int (N 0))) (mH G h (eMd G sv rem typ err lin why wha beh its siz att wro tol) N) := by
  have A0 := A
  obtain ⟨a2, a3, a4, b2, b3, b4, AP, AO⟩ := A
  refine Ct.of (L := [(0, _), (1, _)]) (by decide) (ble rfl) rfl ?_
  refine x_iload_n 1 dX12_account_0 rfl rfl ?_
  refine x_tableIn 80 dX12_account_1 (by decide) (by decide) (by rfl) (by decide) ?_
  first | refine x_aload_n 0 dX12_account_80 rfl rfl ?_ | refine x_aload_nN 0 dX12_account_80 rfl rfl ?_
  refine x_get fX12_9 rfl dX12_account_81 (by with_reducible repeat first | assumption | exact mH_0 ok | exact mH_1 | exact hset_s | refine mH_o (by first | assumption | exact nA ok (by omega) (by omega) (by omega)) (by first | assumption | exact nA ok (by omega) (by omega) (by omega)) ?_ | refine hget_n (by first | assumption | exact Ne.symm (by assumption) | exact nA ok (by omega) (by omega) (by omega)) ?_) (by rfl) ?_
  refine x_iload_n 1 dX12_account_84 rfl rfl ?_
  refine x_mald (i := 0) (by first | exact Eq.refl (nI _) | exact ix_p _ _ | exact ix_o _ _ | exact ix_s _ | exact ix_s1 _ _ | (rw [ix_s]; exact nI_add _ _) | exact nI_add _ 1 | exact nI_add _ 2 | exact nI_add _ 3 | exact nI_add _ 4 | (rw [ix_o0]; exact nI_add _ 3) | (rw [ix_o0]; exact nI_add _ 4) | (rw [ix_o0]; exact nI_add _ _) | (rw [ix_o0]; exact (nI_add _ 3).trans (congrArg nI (by omega))) | (rw [ix_o0]; exact (nI_add _ 4).trans (congrArg nI (by omega))) | exact (nI_add _ 1).trans (congrArg nI (by omega)) | exact (nI_add _ 2).trans (congrArg nI (by omega)) | exact (nI_add _ 3).trans (congrArg nI (by omega)) | exact (nI_add _ 4).trans (congrArg nI (by omega))) dX12_account_85 (by omega) rfl ?_
  refine x_iret rfl dX12_account_86 ?_
  exact ⟨rfl, rfl⟩
set_option maxRecDepth 100000 in
set_option maxHeartbeats 1000000 in
theorem ct_account_1 {l : Launch} {G : Gl} {h : Hp} {sv rem typ err lin why wha beh its siz att wro tol : Int32} {N : Nat → Int32} (ok : Ok G) {ns np no : Nat} (A : RowA N ns np no) : CtR l G mX12_account 9 [.ref (Ad G 20), .int (nI 1)] (mH G h (eMd G sv rem typ err lin why wha beh its siz att wro tol) N) (some (.int (N 1))) (mH G h (eMd G sv rem typ err lin why wha beh its siz att wro tol) N) := by
  have A0 := A
  obtain ⟨a2, a3, a4, b2, b3, b4, AP, AO⟩ := A
  refine Ct.of (L := [(0, _), (1, _)]) (by decide) (ble rfl) rfl ?_
  refine x_iload_n 1 dX12_account_0 rfl rfl ?_
  refine x_tableIn 80 dX12_account_1 (by decide) (by decide) (by rfl) (by decide) ?_
  first | refine x_aload_n 0 dX12_account_80 rfl rfl ?_ | refine x_aload_nN 0 dX12_account_80 rfl rfl ?_
  refine x_get fX12_9 rfl dX12_account_81 (by with_reducible repeat first | assumption | exact mH_0 ok | exact mH_1 | exact hset_s | refine mH_o (by first | assumption | exact nA ok (by omega) (by omega) (by omega)) (by first | assumption | exact nA ok (by omega) (by omega) (by omega)) ?_ | refine hget_n (by first | assumption | exact Ne.symm (by assumption) | exact nA ok (by omega) (by omega) (by omega)) ?_) (by rfl) ?_
  refine x_iload_n 1 dX12_account_84 rfl rfl ?_
  refine x_mald (i := 1) (by first | exact Eq.refl (nI _) | exact ix_p _ _ | exact ix_o _ _ | exact ix_s _ | exact ix_s1 _ _ | (rw [ix_s]; exact nI_add _ _) | exact nI_add _ 1 | exact nI_add _ 2 | exact nI_add _ 3 | exact nI_add _ 4 | (rw [ix_o0]; exact nI_add _ 3) | (rw [ix_o0]; exact nI_add _ 4) | (rw [ix_o0]; exact nI_add _ _) | (rw [ix_o0]; exact (nI_add _ 3).trans (congrArg nI (by omega))) | (rw [ix_o0]; exact (nI_add _ 4).trans (congrArg nI (by omega))) | exact (nI_add _ 1).trans (congrArg nI (by omega)) | exact (nI_add _ 2).trans (congrArg nI (by omega)) | exact (nI_add _ 3).trans (congrArg nI (by omega)) | exact (nI_add _ 4).trans (congrArg nI (by omega))) dX12_account_85 (by omega) rfl ?_
  refine x_iret rfl dX12_account_86 ?_
  exact ⟨rfl, rfl⟩
set_option maxRecDepth 100000 in
set_option maxHeartbeats 1000000 in
theorem ct_account_2 {l : Launch} {G : Gl} {h : Hp} {sv rem typ err lin why wha beh its siz att wro tol : Int32} {N : Nat → Int32} (ok : Ok G) {ns np no : Nat} (A : RowA N ns np no) : CtR l G mX12_account 9 [.ref (Ad G 20), .int (nI 2)] (mH G h (eMd G sv rem typ err lin why wha beh its siz att wro tol) N) (some (.int (N 2))) (mH G h (eMd G sv rem typ err lin why wha beh its siz att wro tol) N) := by
  have A0 := A
  obtain ⟨a2, a3, a4, b2, b3, b4, AP, AO⟩ := A
  refine Ct.of (L := [(0, _), (1, _)]) (by decide) (ble rfl) rfl ?_
  refine x_iload_n 1 dX12_account_0 rfl rfl ?_
  refine x_tableIn 80 dX12_account_1 (by decide) (by decide) (by rfl) (by decide) ?_
  first | refine x_aload_n 0 dX12_account_80 rfl rfl ?_ | refine x_aload_nN 0 dX12_account_80 rfl rfl ?_
  refine x_get fX12_9 rfl dX12_account_81 (by with_reducible repeat first | assumption | exact mH_0 ok | exact mH_1 | exact hset_s | refine mH_o (by first | assumption | exact nA ok (by omega) (by omega) (by omega)) (by first | assumption | exact nA ok (by omega) (by omega) (by omega)) ?_ | refine hget_n (by first | assumption | exact Ne.symm (by assumption) | exact nA ok (by omega) (by omega) (by omega)) ?_) (by rfl) ?_
  refine x_iload_n 1 dX12_account_84 rfl rfl ?_
  refine x_mald (i := 2) (by first | exact Eq.refl (nI _) | exact ix_p _ _ | exact ix_o _ _ | exact ix_s _ | exact ix_s1 _ _ | (rw [ix_s]; exact nI_add _ _) | exact nI_add _ 1 | exact nI_add _ 2 | exact nI_add _ 3 | exact nI_add _ 4 | (rw [ix_o0]; exact nI_add _ 3) | (rw [ix_o0]; exact nI_add _ 4) | (rw [ix_o0]; exact nI_add _ _) | (rw [ix_o0]; exact (nI_add _ 3).trans (congrArg nI (by omega))) | (rw [ix_o0]; exact (nI_add _ 4).trans (congrArg nI (by omega))) | exact (nI_add _ 1).trans (congrArg nI (by omega)) | exact (nI_add _ 2).trans (congrArg nI (by omega)) | exact (nI_add _ 3).trans (congrArg nI (by omega)) | exact (nI_add _ 4).trans (congrArg nI (by omega))) dX12_account_85 (by omega) rfl ?_
  refine x_iret rfl dX12_account_86 ?_
  exact ⟨rfl, rfl⟩
set_option maxRecDepth 100000 in
set_option maxHeartbeats 1000000 in
theorem ct_account_3 {l : Launch} {G : Gl} {h : Hp} {sv rem typ err lin why wha beh its siz att wro tol : Int32} {N : Nat → Int32} (ok : Ok G) {ns np no : Nat} (A : RowA N ns np no) : CtR l G mX12_account 9 [.ref (Ad G 20), .int (nI 3)] (mH G h (eMd G sv rem typ err lin why wha beh its siz att wro tol) N) (some (.int (N 3))) (mH G h (eMd G sv rem typ err lin why wha beh its siz att wro tol) N) := by
  have A0 := A
  obtain ⟨a2, a3, a4, b2, b3, b4, AP, AO⟩ := A
  refine Ct.of (L := [(0, _), (1, _)]) (by decide) (ble rfl) rfl ?_
  refine x_iload_n 1 dX12_account_0 rfl rfl ?_
  refine x_tableIn 80 dX12_account_1 (by decide) (by decide) (by rfl) (by decide) ?_
  first | refine x_aload_n 0 dX12_account_80 rfl rfl ?_ | refine x_aload_nN 0 dX12_account_80 rfl rfl ?_
  refine x_get fX12_9 rfl dX12_account_81 (by with_reducible repeat first | assumption | exact mH_0 ok | exact mH_1 | exact hset_s | refine mH_o (by first | assumption | exact nA ok (by omega) (by omega) (by omega)) (by first | assumption | exact nA ok (by omega) (by omega) (by omega)) ?_ | refine hget_n (by first | assumption | exact Ne.symm (by assumption) | exact nA ok (by omega) (by omega) (by omega)) ?_) (by rfl) ?_
  refine x_iload_n 1 dX12_account_84 rfl rfl ?_
  refine x_mald (i := 3) (by first | exact Eq.refl (nI _) | exact ix_p _ _ | exact ix_o _ _ | exact ix_s _ | exact ix_s1 _ _ | (rw [ix_s]; exact nI_add _ _) | exact nI_add _ 1 | exact nI_add _ 2 | exact nI_add _ 3 | exact nI_add _ 4 | (rw [ix_o0]; exact nI_add _ 3) | (rw [ix_o0]; exact nI_add _ 4) | (rw [ix_o0]; exact nI_add _ _) | (rw [ix_o0]; exact (nI_add _ 3).trans (congrArg nI (by omega))) | (rw [ix_o0]; exact (nI_add _ 4).trans (congrArg nI (by omega))) | exact (nI_add _ 1).trans (congrArg nI (by omega)) | exact (nI_add _ 2).trans (congrArg nI (by omega)) | exact (nI_add _ 3).trans (congrArg nI (by omega)) | exact (nI_add _ 4).trans (congrArg nI (by omega))) dX12_account_85 (by omega) rfl ?_
  refine x_iret rfl dX12_account_86 ?_
  exact ⟨rfl, rfl⟩
set_option maxRecDepth 100000 in
set_option maxHeartbeats 1000000 in
theorem ct_account_4 {l : Launch} {G : Gl} {h : Hp} {sv rem typ err lin why wha beh its siz att wro tol : Int32} {N : Nat → Int32} (ok : Ok G) {ns np no : Nat} (A : RowA N ns np no) : CtR l G mX12_account 9 [.ref (Ad G 20), .int (nI 4)] (mH G h (eMd G sv rem typ err lin why wha beh its siz att wro tol) N) (some (.int (sm (fun i => if soldK (N (66 + 8 * i)) = 0 then (1 : Int32) else 0) np))) (mH G h (eMd G sv rem typ err lin why wha beh its siz att wro tol) N) := by
  have A0 := A
  obtain ⟨a2, a3, a4, b2, b3, b4, AP, AO⟩ := A
  refine Ct.of (L := [(0, _), (1, _)]) (by decide) (ble rfl) rfl ?_
  refine x_iload_n 1 dX12_account_0 rfl rfl ?_
  refine x_tableIn 87 dX12_account_1 (by decide) (by decide) (by rfl) (by decide) ?_
  first | refine x_aload_n 0 dX12_account_87 rfl rfl ?_ | refine x_aload_nN 0 dX12_account_87 rfl rfl ?_
  refine x_iload_n 1 dX12_account_88 rfl rfl ?_
  refine x_iconst (v := 4) dX12_account_89 rfl ?_
  refine x_isub dX12_account_90 ?_
  rw [show nI 4 - 4 = 0 from by decide]
  refine x_cV1 (As := [.int _]) (ct_ofPots_0 ok A0) vX12_209 rfl (x_recv (by with_reducible repeat first | assumption | exact mH_0 ok | exact mH_1 | exact hset_s | refine mH_o (by first | assumption | exact nA ok (by omega) (by omega) (by omega)) (by first | assumption | exact nA ok (by omega) (by omega) (by omega)) ?_ | refine hget_n (by first | assumption | exact Ne.symm (by assumption) | exact nA ok (by omega) (by omega) (by omega)) ?_) rfl) rfl ⟨ble rfl, ble rfl⟩ (ble rfl) dX12_account_91 rfl ?_
  refine x_iret rfl dX12_account_94 ?_
  exact ⟨rfl, rfl⟩
set_option maxRecDepth 100000 in
set_option maxHeartbeats 1000000 in
theorem ct_account_5 {l : Launch} {G : Gl} {h : Hp} {sv rem typ err lin why wha beh its siz att wro tol : Int32} {N : Nat → Int32} (ok : Ok G) {ns np no : Nat} (A : RowA N ns np no) : CtR l G mX12_account 9 [.ref (Ad G 20), .int (nI 5)] (mH G h (eMd G sv rem typ err lin why wha beh its siz att wro tol) N) (some (.int (sm (fun i => smoothK (kOf (N (60 + 8 * i))) (N (62 + 8 * i))) np))) (mH G h (eMd G sv rem typ err lin why wha beh its siz att wro tol) N) := by
  have A0 := A
  obtain ⟨a2, a3, a4, b2, b3, b4, AP, AO⟩ := A
  refine Ct.of (L := [(0, _), (1, _)]) (by decide) (ble rfl) rfl ?_
  refine x_iload_n 1 dX12_account_0 rfl rfl ?_
  refine x_tableIn 87 dX12_account_1 (by decide) (by decide) (by rfl) (by decide) ?_
  first | refine x_aload_n 0 dX12_account_87 rfl rfl ?_ | refine x_aload_nN 0 dX12_account_87 rfl rfl ?_
  refine x_iload_n 1 dX12_account_88 rfl rfl ?_
  refine x_iconst (v := 4) dX12_account_89 rfl ?_
  refine x_isub dX12_account_90 ?_
  rw [show nI 5 - 4 = 1 from by decide]
  refine x_cV1 (As := [.int _]) (ct_ofPots_1 ok A0) vX12_209 rfl (x_recv (by with_reducible repeat first | assumption | exact mH_0 ok | exact mH_1 | exact hset_s | refine mH_o (by first | assumption | exact nA ok (by omega) (by omega) (by omega)) (by first | assumption | exact nA ok (by omega) (by omega) (by omega)) ?_ | refine hget_n (by first | assumption | exact Ne.symm (by assumption) | exact nA ok (by omega) (by omega) (by omega)) ?_) rfl) rfl ⟨ble rfl, ble rfl⟩ (ble rfl) dX12_account_91 rfl ?_
  refine x_iret rfl dX12_account_94 ?_
  exact ⟨rfl, rfl⟩
set_option maxRecDepth 100000 in
set_option maxHeartbeats 1000000 in
theorem ct_account_6 {l : Launch} {G : Gl} {h : Hp} {sv rem typ err lin why wha beh its siz att wro tol : Int32} {N : Nat → Int32} (ok : Ok G) {ns np no : Nat} (A : RowA N ns np no) : CtR l G mX12_account 9 [.ref (Ad G 20), .int (nI 6)] (mH G h (eMd G sv rem typ err lin why wha beh its siz att wro tol) N) (some (.int (sm (fun i => crackedK (kOf (N (60 + 8 * i))) (N (61 + 8 * i)) (N (62 + 8 * i))) np))) (mH G h (eMd G sv rem typ err lin why wha beh its siz att wro tol) N) := by
  have A0 := A
  obtain ⟨a2, a3, a4, b2, b3, b4, AP, AO⟩ := A
  refine Ct.of (L := [(0, _), (1, _)]) (by decide) (ble rfl) rfl ?_
  refine x_iload_n 1 dX12_account_0 rfl rfl ?_
  refine x_tableIn 87 dX12_account_1 (by decide) (by decide) (by rfl) (by decide) ?_
  first | refine x_aload_n 0 dX12_account_87 rfl rfl ?_ | refine x_aload_nN 0 dX12_account_87 rfl rfl ?_
  refine x_iload_n 1 dX12_account_88 rfl rfl ?_
  refine x_iconst (v := 4) dX12_account_89 rfl ?_
  refine x_isub dX12_account_90 ?_
  rw [show nI 6 - 4 = 2 from by decide]
  refine x_cV1 (As := [.int _]) (ct_ofPots_2 ok A0) vX12_209 rfl (x_recv (by with_reducible repeat first | assumption | exact mH_0 ok | exact mH_1 | exact hset_s | refine mH_o (by first | assumption | exact nA ok (by omega) (by omega) (by omega)) (by first | assumption | exact nA ok (by omega) (by omega) (by omega)) ?_ | refine hget_n (by first | assumption | exact Ne.symm (by assumption) | exact nA ok (by omega) (by omega) (by omega)) ?_) rfl) rfl ⟨ble rfl, ble rfl⟩ (ble rfl) dX12_account_91 rfl ?_
  refine x_iret rfl dX12_account_94 ?_
  exact ⟨rfl, rfl⟩
set_option maxRecDepth 100000 in
set_option maxHeartbeats 1000000 in
theorem ct_account_7 {l : Launch} {G : Gl} {h : Hp} {sv rem typ err lin why wha beh its siz att wro tol : Int32} {N : Nat → Int32} (ok : Ok G) {ns np no : Nat} (A : RowA N ns np no) : CtR l G mX12_account 9 [.ref (Ad G 20), .int (nI 7)] (mH G h (eMd G sv rem typ err lin why wha beh its siz att wro tol) N) (some (.int (N 4))) (mH G h (eMd G sv rem typ err lin why wha beh its siz att wro tol) N) := by
  have A0 := A
  obtain ⟨a2, a3, a4, b2, b3, b4, AP, AO⟩ := A
  refine Ct.of (L := [(0, _), (1, _)]) (by decide) (ble rfl) rfl ?_
  refine x_iload_n 1 dX12_account_0 rfl rfl ?_
  refine x_tableIn 95 dX12_account_1 (by decide) (by decide) (by rfl) (by decide) ?_
  first | refine x_aload_n 0 dX12_account_95 rfl rfl ?_ | refine x_aload_nN 0 dX12_account_95 rfl rfl ?_
  refine x_get fX12_9 rfl dX12_account_96 (by with_reducible repeat first | assumption | exact mH_0 ok | exact mH_1 | exact hset_s | refine mH_o (by first | assumption | exact nA ok (by omega) (by omega) (by omega)) (by first | assumption | exact nA ok (by omega) (by omega) (by omega)) ?_ | refine hget_n (by first | assumption | exact Ne.symm (by assumption) | exact nA ok (by omega) (by omega) (by omega)) ?_) (by rfl) ?_
  refine x_iconst (v := 4) dX12_account_99 rfl ?_
  refine x_mald (i := 4) (by first | exact Eq.refl (nI _) | exact ix_p _ _ | exact ix_o _ _ | exact ix_s _ | exact ix_s1 _ _ | (rw [ix_s]; exact nI_add _ _) | exact nI_add _ 1 | exact nI_add _ 2 | exact nI_add _ 3 | exact nI_add _ 4 | (rw [ix_o0]; exact nI_add _ 3) | (rw [ix_o0]; exact nI_add _ 4) | (rw [ix_o0]; exact nI_add _ _) | (rw [ix_o0]; exact (nI_add _ 3).trans (congrArg nI (by omega))) | (rw [ix_o0]; exact (nI_add _ 4).trans (congrArg nI (by omega))) | exact (nI_add _ 1).trans (congrArg nI (by omega)) | exact (nI_add _ 2).trans (congrArg nI (by omega)) | exact (nI_add _ 3).trans (congrArg nI (by omega)) | exact (nI_add _ 4).trans (congrArg nI (by omega))) dX12_account_100 (by omega) rfl ?_
  refine x_iret rfl dX12_account_101 ?_
  exact ⟨rfl, rfl⟩
set_option maxRecDepth 100000 in
set_option maxHeartbeats 1000000 in
theorem ct_account_8 {l : Launch} {G : Gl} {h : Hp} {sv rem typ err lin why wha beh its siz att wro tol : Int32} {N : Nat → Int32} (ok : Ok G) {ns np no : Nat} (A : RowA N ns np no) : CtR l G mX12_account 9 [.ref (Ad G 20), .int (nI 8)] (mH G h (eMd G sv rem typ err lin why wha beh its siz att wro tol) N) (some (.int (sm (fun i => soldK (N (191 + 5 * i))) no))) (mH G h (eMd G sv rem typ err lin why wha beh its siz att wro tol) N) := by
  have A0 := A
  obtain ⟨a2, a3, a4, b2, b3, b4, AP, AO⟩ := A
  refine Ct.of (L := [(0, _), (1, _)]) (by decide) (ble rfl) rfl ?_
  refine x_iload_n 1 dX12_account_0 rfl rfl ?_
  refine x_tableIn 102 dX12_account_1 (by decide) (by decide) (by rfl) (by decide) ?_
  first | refine x_aload_n 0 dX12_account_102 rfl rfl ?_ | refine x_aload_nN 0 dX12_account_102 rfl rfl ?_
  refine x_cV1 (As := []) (ct_X12_filledOrders ok A0) vX12_212 rfl (x_recv (by with_reducible repeat first | assumption | exact mH_0 ok | exact mH_1 | exact hset_s | refine mH_o (by first | assumption | exact nA ok (by omega) (by omega) (by omega)) (by first | assumption | exact nA ok (by omega) (by omega) (by omega)) ?_ | refine hget_n (by first | assumption | exact Ne.symm (by assumption) | exact nA ok (by omega) (by omega) (by omega)) ?_) rfl) rfl ⟨ble rfl, ble rfl⟩ (ble rfl) dX12_account_103 rfl ?_
  refine x_iret rfl dX12_account_106 ?_
  exact ⟨rfl, rfl⟩
set_option maxRecDepth 100000 in
set_option maxHeartbeats 1000000 in
theorem ct_account_9 {l : Launch} {G : Gl} {h : Hp} {sv rem typ err lin why wha beh its siz att wro tol : Int32} {N : Nat → Int32} (ok : Ok G) {ns np no : Nat} (A : RowA N ns np no) : CtR l G mX12_account 9 [.ref (Ad G 20), .int (nI 9)] (mH G h (eMd G sv rem typ err lin why wha beh its siz att wro tol) N) (some (.int (N 5))) (mH G h (eMd G sv rem typ err lin why wha beh its siz att wro tol) N) := by
  have A0 := A
  obtain ⟨a2, a3, a4, b2, b3, b4, AP, AO⟩ := A
  refine Ct.of (L := [(0, _), (1, _)]) (by decide) (ble rfl) rfl ?_
  refine x_iload_n 1 dX12_account_0 rfl rfl ?_
  refine x_tableIn 107 dX12_account_1 (by decide) (by decide) (by rfl) (by decide) ?_
  first | refine x_aload_n 0 dX12_account_107 rfl rfl ?_ | refine x_aload_nN 0 dX12_account_107 rfl rfl ?_
  refine x_get fX12_9 rfl dX12_account_108 (by with_reducible repeat first | assumption | exact mH_0 ok | exact mH_1 | exact hset_s | refine mH_o (by first | assumption | exact nA ok (by omega) (by omega) (by omega)) (by first | assumption | exact nA ok (by omega) (by omega) (by omega)) ?_ | refine hget_n (by first | assumption | exact Ne.symm (by assumption) | exact nA ok (by omega) (by omega) (by omega)) ?_) (by rfl) ?_
  refine x_iconst (v := 5) dX12_account_111 rfl ?_
  refine x_iload_n 1 dX12_account_112 rfl rfl ?_
  refine x_iadd dX12_account_113 ?_
  refine x_bipush (v := 9) dX12_account_114 rfl ?_
  refine x_isub dX12_account_116 ?_
  rw [show (5 : Int32) + nI 9 - 9 = nI 5 from by decide]
  refine x_mald (i := 5) (by first | exact Eq.refl (nI _) | exact ix_p _ _ | exact ix_o _ _ | exact ix_s _ | exact ix_s1 _ _ | (rw [ix_s]; exact nI_add _ _) | exact nI_add _ 1 | exact nI_add _ 2 | exact nI_add _ 3 | exact nI_add _ 4 | (rw [ix_o0]; exact nI_add _ 3) | (rw [ix_o0]; exact nI_add _ 4) | (rw [ix_o0]; exact nI_add _ _) | (rw [ix_o0]; exact (nI_add _ 3).trans (congrArg nI (by omega))) | (rw [ix_o0]; exact (nI_add _ 4).trans (congrArg nI (by omega))) | exact (nI_add _ 1).trans (congrArg nI (by omega)) | exact (nI_add _ 2).trans (congrArg nI (by omega)) | exact (nI_add _ 3).trans (congrArg nI (by omega)) | exact (nI_add _ 4).trans (congrArg nI (by omega))) dX12_account_117 (by omega) rfl ?_
  refine x_iret rfl dX12_account_118 ?_
  exact ⟨rfl, rfl⟩
set_option maxRecDepth 100000 in
set_option maxHeartbeats 1000000 in
theorem ct_account_10 {l : Launch} {G : Gl} {h : Hp} {sv rem typ err lin why wha beh its siz att wro tol : Int32} {N : Nat → Int32} (ok : Ok G) {ns np no : Nat} (A : RowA N ns np no) : CtR l G mX12_account 9 [.ref (Ad G 20), .int (nI 10)] (mH G h (eMd G sv rem typ err lin why wha beh its siz att wro tol) N) (some (.int (N 6))) (mH G h (eMd G sv rem typ err lin why wha beh its siz att wro tol) N) := by
  have A0 := A
  obtain ⟨a2, a3, a4, b2, b3, b4, AP, AO⟩ := A
  refine Ct.of (L := [(0, _), (1, _)]) (by decide) (ble rfl) rfl ?_
  refine x_iload_n 1 dX12_account_0 rfl rfl ?_
  refine x_tableIn 107 dX12_account_1 (by decide) (by decide) (by rfl) (by decide) ?_
  first | refine x_aload_n 0 dX12_account_107 rfl rfl ?_ | refine x_aload_nN 0 dX12_account_107 rfl rfl ?_
  refine x_get fX12_9 rfl dX12_account_108 (by with_reducible repeat first | assumption | exact mH_0 ok | exact mH_1 | exact hset_s | refine mH_o (by first | assumption | exact nA ok (by omega) (by omega) (by omega)) (by first | assumption | exact nA ok (by omega) (by omega) (by omega)) ?_ | refine hget_n (by first | assumption | exact Ne.symm (by assumption) | exact nA ok (by omega) (by omega) (by omega)) ?_) (by rfl) ?_
  refine x_iconst (v := 5) dX12_account_111 rfl ?_
  refine x_iload_n 1 dX12_account_112 rfl rfl ?_
  refine x_iadd dX12_account_113 ?_
  refine x_bipush (v := 9) dX12_account_114 rfl ?_
  refine x_isub dX12_account_116 ?_
  rw [show (5 : Int32) + nI 10 - 9 = nI 6 from by decide]
  refine x_mald (i := 6) (by first | exact Eq.refl (nI _) | exact ix_p _ _ | exact ix_o _ _ | exact ix_s _ | exact ix_s1 _ _ | (rw [ix_s]; exact nI_add _ _) | exact nI_add _ 1 | exact nI_add _ 2 | exact nI_add _ 3 | exact nI_add _ 4 | (rw [ix_o0]; exact nI_add _ 3) | (rw [ix_o0]; exact nI_add _ 4) | (rw [ix_o0]; exact nI_add _ _) | (rw [ix_o0]; exact (nI_add _ 3).trans (congrArg nI (by omega))) | (rw [ix_o0]; exact (nI_add _ 4).trans (congrArg nI (by omega))) | exact (nI_add _ 1).trans (congrArg nI (by omega)) | exact (nI_add _ 2).trans (congrArg nI (by omega)) | exact (nI_add _ 3).trans (congrArg nI (by omega)) | exact (nI_add _ 4).trans (congrArg nI (by omega))) dX12_account_117 (by omega) rfl ?_
  refine x_iret rfl dX12_account_118 ?_
  exact ⟨rfl, rfl⟩
set_option maxRecDepth 100000 in
set_option maxHeartbeats 1000000 in
theorem ct_account_11 {l : Launch} {G : Gl} {h : Hp} {sv rem typ err lin why wha beh its siz att wro tol : Int32} {N : Nat → Int32} (ok : Ok G) {ns np no : Nat} (A : RowA N ns np no) : CtR l G mX12_account 9 [.ref (Ad G 20), .int (nI 11)] (mH G h (eMd G sv rem typ err lin why wha beh its siz att wro tol) N) (some (.int (N 7))) (mH G h (eMd G sv rem typ err lin why wha beh its siz att wro tol) N) := by
  have A0 := A
  obtain ⟨a2, a3, a4, b2, b3, b4, AP, AO⟩ := A
  refine Ct.of (L := [(0, _), (1, _)]) (by decide) (ble rfl) rfl ?_
  refine x_iload_n 1 dX12_account_0 rfl rfl ?_
  refine x_tableIn 107 dX12_account_1 (by decide) (by decide) (by rfl) (by decide) ?_
  first | refine x_aload_n 0 dX12_account_107 rfl rfl ?_ | refine x_aload_nN 0 dX12_account_107 rfl rfl ?_
  refine x_get fX12_9 rfl dX12_account_108 (by with_reducible repeat first | assumption | exact mH_0 ok | exact mH_1 | exact hset_s | refine mH_o (by first | assumption | exact nA ok (by omega) (by omega) (by omega)) (by first | assumption | exact nA ok (by omega) (by omega) (by omega)) ?_ | refine hget_n (by first | assumption | exact Ne.symm (by assumption) | exact nA ok (by omega) (by omega) (by omega)) ?_) (by rfl) ?_
  refine x_iconst (v := 5) dX12_account_111 rfl ?_
  refine x_iload_n 1 dX12_account_112 rfl rfl ?_
  refine x_iadd dX12_account_113 ?_
  refine x_bipush (v := 9) dX12_account_114 rfl ?_
  refine x_isub dX12_account_116 ?_
  rw [show (5 : Int32) + nI 11 - 9 = nI 7 from by decide]
  refine x_mald (i := 7) (by first | exact Eq.refl (nI _) | exact ix_p _ _ | exact ix_o _ _ | exact ix_s _ | exact ix_s1 _ _ | (rw [ix_s]; exact nI_add _ _) | exact nI_add _ 1 | exact nI_add _ 2 | exact nI_add _ 3 | exact nI_add _ 4 | (rw [ix_o0]; exact nI_add _ 3) | (rw [ix_o0]; exact nI_add _ 4) | (rw [ix_o0]; exact nI_add _ _) | (rw [ix_o0]; exact (nI_add _ 3).trans (congrArg nI (by omega))) | (rw [ix_o0]; exact (nI_add _ 4).trans (congrArg nI (by omega))) | exact (nI_add _ 1).trans (congrArg nI (by omega)) | exact (nI_add _ 2).trans (congrArg nI (by omega)) | exact (nI_add _ 3).trans (congrArg nI (by omega)) | exact (nI_add _ 4).trans (congrArg nI (by omega))) dX12_account_117 (by omega) rfl ?_
  refine x_iret rfl dX12_account_118 ?_
  exact ⟨rfl, rfl⟩
set_option maxRecDepth 100000 in
set_option maxHeartbeats 1000000 in
theorem ct_account_12 {l : Launch} {G : Gl} {h : Hp} {sv rem typ err lin why wha beh its siz att wro tol : Int32} {N : Nat → Int32} (ok : Ok G) {ns np no : Nat} (A : RowA N ns np no) : CtR l G mX12_account 9 [.ref (Ad G 20), .int (nI 12)] (mH G h (eMd G sv rem typ err lin why wha beh its siz att wro tol) N) (some (.int (N 8))) (mH G h (eMd G sv rem typ err lin why wha beh its siz att wro tol) N) := by
  have A0 := A
  obtain ⟨a2, a3, a4, b2, b3, b4, AP, AO⟩ := A
  refine Ct.of (L := [(0, _), (1, _)]) (by decide) (ble rfl) rfl ?_
  refine x_iload_n 1 dX12_account_0 rfl rfl ?_
  refine x_tableIn 107 dX12_account_1 (by decide) (by decide) (by rfl) (by decide) ?_
  first | refine x_aload_n 0 dX12_account_107 rfl rfl ?_ | refine x_aload_nN 0 dX12_account_107 rfl rfl ?_
  refine x_get fX12_9 rfl dX12_account_108 (by with_reducible repeat first | assumption | exact mH_0 ok | exact mH_1 | exact hset_s | refine mH_o (by first | assumption | exact nA ok (by omega) (by omega) (by omega)) (by first | assumption | exact nA ok (by omega) (by omega) (by omega)) ?_ | refine hget_n (by first | assumption | exact Ne.symm (by assumption) | exact nA ok (by omega) (by omega) (by omega)) ?_) (by rfl) ?_
  refine x_iconst (v := 5) dX12_account_111 rfl ?_
  refine x_iload_n 1 dX12_account_112 rfl rfl ?_
  refine x_iadd dX12_account_113 ?_
  refine x_bipush (v := 9) dX12_account_114 rfl ?_
  refine x_isub dX12_account_116 ?_
  rw [show (5 : Int32) + nI 12 - 9 = nI 8 from by decide]
  refine x_mald (i := 8) (by first | exact Eq.refl (nI _) | exact ix_p _ _ | exact ix_o _ _ | exact ix_s _ | exact ix_s1 _ _ | (rw [ix_s]; exact nI_add _ _) | exact nI_add _ 1 | exact nI_add _ 2 | exact nI_add _ 3 | exact nI_add _ 4 | (rw [ix_o0]; exact nI_add _ 3) | (rw [ix_o0]; exact nI_add _ 4) | (rw [ix_o0]; exact nI_add _ _) | (rw [ix_o0]; exact (nI_add _ 3).trans (congrArg nI (by omega))) | (rw [ix_o0]; exact (nI_add _ 4).trans (congrArg nI (by omega))) | exact (nI_add _ 1).trans (congrArg nI (by omega)) | exact (nI_add _ 2).trans (congrArg nI (by omega)) | exact (nI_add _ 3).trans (congrArg nI (by omega)) | exact (nI_add _ 4).trans (congrArg nI (by omega))) dX12_account_117 (by omega) rfl ?_
  refine x_iret rfl dX12_account_118 ?_
  exact ⟨rfl, rfl⟩
set_option maxRecDepth 100000 in
set_option maxHeartbeats 1000000 in
theorem ct_account_13 {l : Launch} {G : Gl} {h : Hp} {sv rem typ err lin why wha beh its siz att wro tol : Int32} {N : Nat → Int32} (ok : Ok G) {ns np no : Nat} (A : RowA N ns np no) : CtR l G mX12_account 9 [.ref (Ad G 20), .int (nI 13)] (mH G h (eMd G sv rem typ err lin why wha beh its siz att wro tol) N) (some (.int (N 9))) (mH G h (eMd G sv rem typ err lin why wha beh its siz att wro tol) N) := by
  have A0 := A
  obtain ⟨a2, a3, a4, b2, b3, b4, AP, AO⟩ := A
  refine Ct.of (L := [(0, _), (1, _)]) (by decide) (ble rfl) rfl ?_
  refine x_iload_n 1 dX12_account_0 rfl rfl ?_
  refine x_tableIn 107 dX12_account_1 (by decide) (by decide) (by rfl) (by decide) ?_
  first | refine x_aload_n 0 dX12_account_107 rfl rfl ?_ | refine x_aload_nN 0 dX12_account_107 rfl rfl ?_
  refine x_get fX12_9 rfl dX12_account_108 (by with_reducible repeat first | assumption | exact mH_0 ok | exact mH_1 | exact hset_s | refine mH_o (by first | assumption | exact nA ok (by omega) (by omega) (by omega)) (by first | assumption | exact nA ok (by omega) (by omega) (by omega)) ?_ | refine hget_n (by first | assumption | exact Ne.symm (by assumption) | exact nA ok (by omega) (by omega) (by omega)) ?_) (by rfl) ?_
  refine x_iconst (v := 5) dX12_account_111 rfl ?_
  refine x_iload_n 1 dX12_account_112 rfl rfl ?_
  refine x_iadd dX12_account_113 ?_
  refine x_bipush (v := 9) dX12_account_114 rfl ?_
  refine x_isub dX12_account_116 ?_
  rw [show (5 : Int32) + nI 13 - 9 = nI 9 from by decide]
  refine x_mald (i := 9) (by first | exact Eq.refl (nI _) | exact ix_p _ _ | exact ix_o _ _ | exact ix_s _ | exact ix_s1 _ _ | (rw [ix_s]; exact nI_add _ _) | exact nI_add _ 1 | exact nI_add _ 2 | exact nI_add _ 3 | exact nI_add _ 4 | (rw [ix_o0]; exact nI_add _ 3) | (rw [ix_o0]; exact nI_add _ 4) | (rw [ix_o0]; exact nI_add _ _) | (rw [ix_o0]; exact (nI_add _ 3).trans (congrArg nI (by omega))) | (rw [ix_o0]; exact (nI_add _ 4).trans (congrArg nI (by omega))) | exact (nI_add _ 1).trans (congrArg nI (by omega)) | exact (nI_add _ 2).trans (congrArg nI (by omega)) | exact (nI_add _ 3).trans (congrArg nI (by omega)) | exact (nI_add _ 4).trans (congrArg nI (by omega))) dX12_account_117 (by omega) rfl ?_
  refine x_iret rfl dX12_account_118 ?_
  exact ⟨rfl, rfl⟩
set_option maxRecDepth 100000 in
set_option maxHeartbeats 1000000 in
theorem ct_account_14 {l : Launch} {G : Gl} {h : Hp} {sv rem typ err lin why wha beh its siz att wro tol : Int32} {N : Nat → Int32} (ok : Ok G) {ns np no : Nat} (A : RowA N ns np no) : CtR l G mX12_account 9 [.ref (Ad G 20), .int (nI 14)] (mH G h (eMd G sv rem typ err lin why wha beh its siz att wro tol) N) (some (.int (typ))) (mH G h (eMd G sv rem typ err lin why wha beh its siz att wro tol) N) := by
  have A0 := A
  obtain ⟨a2, a3, a4, b2, b3, b4, AP, AO⟩ := A
  refine Ct.of (L := [(0, _), (1, _)]) (by decide) (ble rfl) rfl ?_
  refine x_iload_n 1 dX12_account_0 rfl rfl ?_
  refine x_tableIn 119 dX12_account_1 (by decide) (by decide) (by rfl) (by decide) ?_
  first | refine x_aload_n 0 dX12_account_119 rfl rfl ?_ | refine x_aload_nN 0 dX12_account_119 rfl rfl ?_
  refine x_get fX12_216 rfl dX12_account_120 (by with_reducible repeat first | assumption | exact mH_0 ok | exact mH_1 | exact hset_s | refine mH_o (by first | assumption | exact nA ok (by omega) (by omega) (by omega)) (by first | assumption | exact nA ok (by omega) (by omega) (by omega)) ?_ | refine hget_n (by first | assumption | exact Ne.symm (by assumption) | exact nA ok (by omega) (by omega) (by omega)) ?_) (by rfl) ?_
  refine x_iret rfl dX12_account_123 ?_
  exact ⟨rfl, rfl⟩
set_option maxRecDepth 100000 in
set_option maxHeartbeats 1000000 in
theorem ct_account_15 {l : Launch} {G : Gl} {h : Hp} {sv rem typ err lin why wha beh its siz att wro tol : Int32} {N : Nat → Int32} (ok : Ok G) {ns np no : Nat} (A : RowA N ns np no) : CtR l G mX12_account 9 [.ref (Ad G 20), .int (nI 15)] (mH G h (eMd G sv rem typ err lin why wha beh its siz att wro tol) N) (some (.int (rem))) (mH G h (eMd G sv rem typ err lin why wha beh its siz att wro tol) N) := by
  have A0 := A
  obtain ⟨a2, a3, a4, b2, b3, b4, AP, AO⟩ := A
  refine Ct.of (L := [(0, _), (1, _)]) (by decide) (ble rfl) rfl ?_
  refine x_iload_n 1 dX12_account_0 rfl rfl ?_
  refine x_tableIn 124 dX12_account_1 (by decide) (by decide) (by rfl) (by decide) ?_
  first | refine x_aload_n 0 dX12_account_124 rfl rfl ?_ | refine x_aload_nN 0 dX12_account_124 rfl rfl ?_
  refine x_get fX12_48 rfl dX12_account_125 (by with_reducible repeat first | assumption | exact mH_0 ok | exact mH_1 | exact hset_s | refine mH_o (by first | assumption | exact nA ok (by omega) (by omega) (by omega)) (by first | assumption | exact nA ok (by omega) (by omega) (by omega)) ?_ | refine hget_n (by first | assumption | exact Ne.symm (by assumption) | exact nA ok (by omega) (by omega) (by omega)) ?_) (by rfl) ?_
  refine x_iret rfl dX12_account_128 ?_
  exact ⟨rfl, rfl⟩
set_option maxRecDepth 100000 in
set_option maxHeartbeats 1000000 in
theorem ct_account_n {l : Launch} {G : Gl} {h : Hp} {sv rem typ err lin why wha beh its siz att wro tol : Int32} {N : Nat → Int32} (ok : Ok G) {ns np no : Nat} (A : RowA N ns np no) (y : Int32) (hy : y.toInt < 0 ∨ (15 : Int) < y.toInt) : CtR l G mX12_account 9 [.ref (Ad G 20), .int y] (mH G h (eMd G sv rem typ err lin why wha beh its siz att wro tol) N) (some (.int (-2))) (mH G h (eMd G sv rem typ err lin why wha beh its siz att wro tol) N) := by
  obtain ⟨a2, a3, a4, b2, b3, b4, AP, AO⟩ := A
  refine Ct.of (L := [(0, _), (1, _)]) (by decide) (ble rfl) rfl ?_
  refine x_iload_n 1 dX12_account_0 rfl rfl ?_
  refine x_tableOut 129 dX12_account_1 hy (by decide) ?_
  refine x_bipush (v := -2) dX12_account_129 rfl ?_
  refine x_iret rfl dX12_account_131 ?_
  exact ⟨rfl, rfl⟩
def cM (N : Nat → Int32) (np : Nat) : Nat → Int32
  | 0 => nxM N (-1) np
  | i + 1 => nxM N (cM N np i) np
set_option maxRecDepth 100000 in
set_option maxHeartbeats 1000000 in
theorem ct_peal_a {l : Launch} {G : Gl} {h : Hp} {sv rem typ err lin why wha beh its siz att wro tol : Int32} {N : Nat → Int32} (ok : Ok G) {ns np no : Nat} (A : RowA N ns np no) {x : Int32} (hx : ¬ inI x 1 20 = 0) {m : Nat} (hm : m ≤ 16) (h1 : ∀ i, i < m → ¬ cM N np i = -1 ∧ cM N np i - cM N np (i - 1) ≤ x) (h2 : cM N np m = -1) : CtR l G mX12_peal 9 [.ref (Ad G 20), .int x] (mH G h (eMd G sv rem typ err lin why wha beh its siz att wro tol) N) (some (.int (nI m))) (mH G h (eMd G sv rem typ err lin why wha beh its siz att wro tol) N) := by
  have A0 := A
  obtain ⟨a2, a3, a4, b2, b3, b4, AP, AO⟩ := A
  refine Ct.of (L := [(0, _), (1, _)]) (by decide) (ble rfl) rfl ?_
  refine x_iload_n 1 dX12_peal_0 rfl rfl ?_
  refine x_iconst (v := 1) dX12_peal_1 rfl ?_
  refine x_bipush (v := 20) dX12_peal_2 rfl ?_
  refine x_cS1 (As := [.int _, .int _, .int _]) (ct_X12_isIn _ _ _) vX12_74 rfl rfl ⟨ble rfl, ble rfl⟩ (ble rfl) dX12_peal_4 rfl ?_
  refine x_if_ne 13 dX12_peal_7 (by decide) (fun _ => ?_) (fun z => by first | exact absurd (hx) z | exact absurd z (hx))
  refine x_iconst (v := 0) dX12_peal_13 rfl ?_
  refine x_istore_n (L' := [(2, _), (0, _), (1, _)]) dX12_peal_14 rfl (ble rfl) rfl ?_
  first | refine x_aload_n 1 dX12_peal_15 rfl rfl ?_ | refine x_aload_nN 1 dX12_peal_15 rfl rfl ?_
  refine x_iconst (v := -1) dX12_peal_16 rfl ?_
  refine x_cV1 (As := [.int _]) (ct_X12_nextSound ok A0 _) vX12_206 rfl (x_recv (by with_reducible repeat first | assumption | exact mH_0 ok | exact mH_1 | exact hset_s | refine mH_o (by first | assumption | exact nA ok (by omega) (by omega) (by omega)) (by first | assumption | exact nA ok (by omega) (by omega) (by omega)) ?_ | refine hget_n (by first | assumption | exact Ne.symm (by assumption) | exact nA ok (by omega) (by omega) (by omega)) ?_) rfl) rfl ⟨ble rfl, ble rfl⟩ (ble rfl) dX12_peal_17 rfl ?_
  refine x_istore_n (L' := [(3, _), (2, _), (0, _), (1, _)]) dX12_peal_20 rfl (ble rfl) rfl ?_
  refine x_iload_n 0 dX12_peal_21 rfl rfl ?_
  refine x_istore (L' := [(4, _), (3, _), (2, _), (0, _), (1, _)]) dX12_peal_22 (ble rfl) rfl ?_
  refine x_locs (L' := [(4, _), (3, _), (2, _), (0, _), (1, _)]) [0, 1, 2, 3, 4] rfl ?_
  refine dn (P := fun i => XX l G mX12_peal (Rm 9 0 0) (KQ G (Rm 9 0 0) (fun w h' => w = some (.int (nI m)) ∧ h' = (mH G h (eMd G sv rem typ err lin why wha beh its siz att wro tol) N))) 0 0 24 [(4, .int (cM N np i)), (3, .int (cM N np (i - 1))), (2, .int (nI i)), (0, .ref (Ad G 20)), (1, .int x)] [] (mH G h (eMd G sv rem typ err lin why wha beh its siz att wro tol) N)) (n := m) ?_ (fun i hi ihi => ?_)
  · refine x_iload 0 dX12_peal_24 rfl ?_
    refine x_iconst (v := -1) dX12_peal_26 rfl ?_
    refine x_icmp_eq 54 dX12_peal_27 (by decide) (fun _ => ?_) (fun z => by first | exact absurd (h2) z | exact absurd z (h2))
    refine x_iload_n 2 dX12_peal_54 rfl rfl ?_
    refine x_iret rfl dX12_peal_55 ?_
    exact ⟨rfl, rfl⟩
  · refine x_iload 0 dX12_peal_24 rfl ?_
    refine x_iconst (v := -1) dX12_peal_26 rfl ?_
    refine x_icmp_eq 54 dX12_peal_27 (by decide) (fun z => by first | exact absurd z ((h1 i hi).1) | exact absurd ((h1 i hi).1) z) (fun _ => ?_)
    refine x_iload 0 dX12_peal_30 rfl ?_
    refine x_iload_n 1 dX12_peal_32 rfl rfl ?_
    refine x_isub dX12_peal_33 ?_
    refine x_iload_n 4 dX12_peal_34 rfl rfl ?_
    refine x_icmp_gt 54 dX12_peal_35 (by decide) (fun z => by first | exact absurd z (Int32.not_lt.mpr (h1 i hi).2) | exact absurd (Int32.not_lt.mpr (h1 i hi).2) z) (fun _ => ?_)
    refine x_iinc (L' := [(2, _), (4, _), (3, _), (0, _), (1, _)]) (j := 2) (nI (_ + 1)) dX12_peal_38 rfl (nI_1 _) (ble rfl) rfl ?_
    refine x_iload 1 dX12_peal_41 rfl ?_
    refine x_istore_n (L' := [(3, _), (2, _), (4, _), (0, _), (1, _)]) dX12_peal_43 rfl (ble rfl) rfl ?_
    first | refine x_aload_n 3 dX12_peal_44 rfl rfl ?_ | refine x_aload_nN 3 dX12_peal_44 rfl rfl ?_
    refine x_iload_n 0 dX12_peal_45 rfl rfl ?_
    refine x_cV1 (As := [.int _]) (ct_X12_nextSound ok A0 _) vX12_206 rfl (x_recv (by with_reducible repeat first | assumption | exact mH_0 ok | exact mH_1 | exact hset_s | refine mH_o (by first | assumption | exact nA ok (by omega) (by omega) (by omega)) (by first | assumption | exact nA ok (by omega) (by omega) (by omega)) ?_ | refine hget_n (by first | assumption | exact Ne.symm (by assumption) | exact nA ok (by omega) (by omega) (by omega)) ?_) rfl) rfl ⟨ble rfl, ble rfl⟩ (ble rfl) dX12_peal_46 rfl ?_
    refine x_istore (L' := [(4, _), (3, _), (2, _), (0, _), (1, _)]) dX12_peal_49 (ble rfl) rfl ?_
    refine x_goto 24 dX12_peal_51 (by decide) ?_
    refine x_locs (L' := [(4, _), (3, _), (2, _), (0, _), (1, _)]) [0, 1, 2, 3, 4] rfl ?_
    exact ihi
set_option maxRecDepth 100000 in
set_option maxHeartbeats 1000000 in
theorem ct_peal_b {l : Launch} {G : Gl} {h : Hp} {sv rem typ err lin why wha beh its siz att wro tol : Int32} {N : Nat → Int32} (ok : Ok G) {ns np no : Nat} (A : RowA N ns np no) {x : Int32} (hx : ¬ inI x 1 20 = 0) {m : Nat} (hm : m ≤ 16) (h1 : ∀ i, i < m → ¬ cM N np i = -1 ∧ cM N np i - cM N np (i - 1) ≤ x) (h3 : ¬ cM N np m = -1) (h2 : ¬ cM N np m - cM N np (m - 1) ≤ x) : CtR l G mX12_peal 9 [.ref (Ad G 20), .int x] (mH G h (eMd G sv rem typ err lin why wha beh its siz att wro tol) N) (some (.int (nI m))) (mH G h (eMd G sv rem typ err lin why wha beh its siz att wro tol) N) := by
  have A0 := A
  obtain ⟨a2, a3, a4, b2, b3, b4, AP, AO⟩ := A
  refine Ct.of (L := [(0, _), (1, _)]) (by decide) (ble rfl) rfl ?_
  refine x_iload_n 1 dX12_peal_0 rfl rfl ?_
  refine x_iconst (v := 1) dX12_peal_1 rfl ?_
  refine x_bipush (v := 20) dX12_peal_2 rfl ?_
  refine x_cS1 (As := [.int _, .int _, .int _]) (ct_X12_isIn _ _ _) vX12_74 rfl rfl ⟨ble rfl, ble rfl⟩ (ble rfl) dX12_peal_4 rfl ?_
  refine x_if_ne 13 dX12_peal_7 (by decide) (fun _ => ?_) (fun z => by first | exact absurd (hx) z | exact absurd z (hx))
  refine x_iconst (v := 0) dX12_peal_13 rfl ?_
  refine x_istore_n (L' := [(2, _), (0, _), (1, _)]) dX12_peal_14 rfl (ble rfl) rfl ?_
  first | refine x_aload_n 1 dX12_peal_15 rfl rfl ?_ | refine x_aload_nN 1 dX12_peal_15 rfl rfl ?_
  refine x_iconst (v := -1) dX12_peal_16 rfl ?_
  refine x_cV1 (As := [.int _]) (ct_X12_nextSound ok A0 _) vX12_206 rfl (x_recv (by with_reducible repeat first | assumption | exact mH_0 ok | exact mH_1 | exact hset_s | refine mH_o (by first | assumption | exact nA ok (by omega) (by omega) (by omega)) (by first | assumption | exact nA ok (by omega) (by omega) (by omega)) ?_ | refine hget_n (by first | assumption | exact Ne.symm (by assumption) | exact nA ok (by omega) (by omega) (by omega)) ?_) rfl) rfl ⟨ble rfl, ble rfl⟩ (ble rfl) dX12_peal_17 rfl ?_
  refine x_istore_n (L' := [(3, _), (2, _), (0, _), (1, _)]) dX12_peal_20 rfl (ble rfl) rfl ?_
  refine x_iload_n 0 dX12_peal_21 rfl rfl ?_
  refine x_istore (L' := [(4, _), (3, _), (2, _), (0, _), (1, _)]) dX12_peal_22 (ble rfl) rfl ?_
  refine x_locs (L' := [(4, _), (3, _), (2, _), (0, _), (1, _)]) [0, 1, 2, 3, 4] rfl ?_
  refine dn (P := fun i => XX l G mX12_peal (Rm 9 0 0) (KQ G (Rm 9 0 0) (fun w h' => w = some (.int (nI m)) ∧ h' = (mH G h (eMd G sv rem typ err lin why wha beh its siz att wro tol) N))) 0 0 24 [(4, .int (cM N np i)), (3, .int (cM N np (i - 1))), (2, .int (nI i)), (0, .ref (Ad G 20)), (1, .int x)] [] (mH G h (eMd G sv rem typ err lin why wha beh its siz att wro tol) N)) (n := m) ?_ (fun i hi ihi => ?_)
  · refine x_iload 0 dX12_peal_24 rfl ?_
    refine x_iconst (v := -1) dX12_peal_26 rfl ?_
    refine x_icmp_eq 54 dX12_peal_27 (by decide) (fun z => by first | exact absurd z (h3) | exact absurd (h3) z) (fun _ => ?_)
    refine x_iload 0 dX12_peal_30 rfl ?_
    refine x_iload_n 1 dX12_peal_32 rfl rfl ?_
    refine x_isub dX12_peal_33 ?_
    refine x_iload_n 4 dX12_peal_34 rfl rfl ?_
    refine x_icmp_gt 54 dX12_peal_35 (by decide) (fun _ => ?_) (fun z => by first | exact absurd (Int32.not_le.mp h2) z | exact absurd z (Int32.not_le.mp h2))
    refine x_iload_n 2 dX12_peal_54 rfl rfl ?_
    refine x_iret rfl dX12_peal_55 ?_
    exact ⟨rfl, rfl⟩
  · refine x_iload 0 dX12_peal_24 rfl ?_
    refine x_iconst (v := -1) dX12_peal_26 rfl ?_
    refine x_icmp_eq 54 dX12_peal_27 (by decide) (fun z => by first | exact absurd z ((h1 i hi).1) | exact absurd ((h1 i hi).1) z) (fun _ => ?_)
    refine x_iload 0 dX12_peal_30 rfl ?_
    refine x_iload_n 1 dX12_peal_32 rfl rfl ?_
    refine x_isub dX12_peal_33 ?_
    refine x_iload_n 4 dX12_peal_34 rfl rfl ?_
    refine x_icmp_gt 54 dX12_peal_35 (by decide) (fun z => by first | exact absurd z (Int32.not_lt.mpr (h1 i hi).2) | exact absurd (Int32.not_lt.mpr (h1 i hi).2) z) (fun _ => ?_)
    refine x_iinc (L' := [(2, _), (4, _), (3, _), (0, _), (1, _)]) (j := 2) (nI (_ + 1)) dX12_peal_38 rfl (nI_1 _) (ble rfl) rfl ?_
    refine x_iload 1 dX12_peal_41 rfl ?_
    refine x_istore_n (L' := [(3, _), (2, _), (4, _), (0, _), (1, _)]) dX12_peal_43 rfl (ble rfl) rfl ?_
    first | refine x_aload_n 3 dX12_peal_44 rfl rfl ?_ | refine x_aload_nN 3 dX12_peal_44 rfl rfl ?_
    refine x_iload_n 0 dX12_peal_45 rfl rfl ?_
    refine x_cV1 (As := [.int _]) (ct_X12_nextSound ok A0 _) vX12_206 rfl (x_recv (by with_reducible repeat first | assumption | exact mH_0 ok | exact mH_1 | exact hset_s | refine mH_o (by first | assumption | exact nA ok (by omega) (by omega) (by omega)) (by first | assumption | exact nA ok (by omega) (by omega) (by omega)) ?_ | refine hget_n (by first | assumption | exact Ne.symm (by assumption) | exact nA ok (by omega) (by omega) (by omega)) ?_) rfl) rfl ⟨ble rfl, ble rfl⟩ (ble rfl) dX12_peal_46 rfl ?_
    refine x_istore (L' := [(4, _), (3, _), (2, _), (0, _), (1, _)]) dX12_peal_49 (ble rfl) rfl ?_
    refine x_goto 24 dX12_peal_51 (by decide) ?_
    refine x_locs (L' := [(4, _), (3, _), (2, _), (0, _), (1, _)]) [0, 1, 2, 3, 4] rfl ?_
    exact ihi
set_option maxRecDepth 100000 in
set_option maxHeartbeats 1000000 in
theorem ct_peal_n {l : Launch} {G : Gl} {h : Hp} {sv rem typ err lin why wha beh its siz att wro tol : Int32} {N : Nat → Int32} (ok : Ok G) {ns np no : Nat} (A : RowA N ns np no) {x : Int32} (hx : inI x 1 20 = 0) : CtR l G mX12_peal 9 [.ref (Ad G 20), .int x] (mH G h (eMd G sv rem typ err lin why wha beh its siz att wro tol) N) (some (.int (-2))) (mH G h (eMd G sv rem typ err lin why wha beh its siz att wro tol) N) := by
  obtain ⟨a2, a3, a4, b2, b3, b4, AP, AO⟩ := A
  refine Ct.of (L := [(0, _), (1, _)]) (by decide) (ble rfl) rfl ?_
  refine x_iload_n 1 dX12_peal_0 rfl rfl ?_
  refine x_iconst (v := 1) dX12_peal_1 rfl ?_
  refine x_bipush (v := 20) dX12_peal_2 rfl ?_
  refine x_cS1 (As := [.int _, .int _, .int _]) (ct_X12_isIn _ _ _) vX12_74 rfl rfl ⟨ble rfl, ble rfl⟩ (ble rfl) dX12_peal_4 rfl ?_
  refine x_if_ne 13 dX12_peal_7 (by decide) (fun z => by first | exact absurd z (fun z => z hx) | exact absurd (fun z => z hx) z) (fun _ => ?_)
  refine x_bipush (v := -2) dX12_peal_10 rfl ?_
  refine x_iret rfl dX12_peal_12 ?_
  exact ⟨rfl, rfl⟩
set_option maxRecDepth 100000 in
set_option maxHeartbeats 1000000 in
theorem ct_reason_in {l : Launch} {G : Gl} {h : Hp} {sv rem typ err lin why wha beh its siz att wro tol : Int32} {N : Nat → Int32} (ok : Ok G) {rs ds : Nat → Int32} (hreasons : h (Ad G 25) = some (eI G 3 rs)) (hdetails : h (Ad G 26) = some (eI G 3 ds)) {i : Nat} (hi : i ≤ 2) (y : Int32) : CtR l G mX12_reason 3 [.ref (Ad G 20), .int (nI i), .int y] (mH G h (eMd G sv rem typ err lin why wha beh its siz att wro tol) N) (some (.int (if rs i = 0 then -4 else if y = 0 then rs i else ds i))) (mH G h (eMd G sv rem typ err lin why wha beh its siz att wro tol) N) := by
  have hwi : ¬ inI (nI i) 0 2 = 0 := fun z => (inI_0.mp z).elim (nI_pos (by omega)) (nI_nlt (a := 2) (b := i) hi (by omega))
  refine Ct.of (L := [(0, _), (1, _), (2, _)]) (by decide) (ble rfl) rfl ?_
  refine x_iload_n 1 dX12_reason_0 rfl rfl ?_
  refine x_iconst (v := 0) dX12_reason_1 rfl ?_
  refine x_iconst (v := 2) dX12_reason_2 rfl ?_
  refine x_cS1 (As := [.int _, .int _, .int _]) (ct_X12_isIn _ _ _) vX12_74 rfl rfl ⟨ble rfl, ble rfl⟩ (ble rfl) dX12_reason_3 rfl ?_
  refine x_if_ne 12 dX12_reason_6 (by decide) (fun _ => ?_) (fun z => by first | exact absurd (hwi) z | exact absurd z (hwi))
  first | refine x_aload_n 0 dX12_reason_12 rfl rfl ?_ | refine x_aload_nN 0 dX12_reason_12 rfl rfl ?_
  refine x_get fX12_22 rfl dX12_reason_13 (by with_reducible repeat first | assumption | exact mH_0 ok | exact mH_1 | exact hset_s | refine mH_o (by first | assumption | exact nA ok (by omega) (by omega) (by omega)) (by first | assumption | exact nA ok (by omega) (by omega) (by omega)) ?_ | refine hget_n (by first | assumption | exact Ne.symm (by assumption) | exact nA ok (by omega) (by omega) (by omega)) ?_) (by rfl) ?_
  refine x_iload_n 1 dX12_reason_16 rfl rfl ?_
  refine x_ialdn dX12_reason_17 (by with_reducible repeat first | assumption | exact mH_0 ok | exact mH_1 | exact hset_s | refine mH_o (by first | assumption | exact nA ok (by omega) (by omega) (by omega)) (by first | assumption | exact nA ok (by omega) (by omega) (by omega)) ?_ | refine hget_n (by first | assumption | exact Ne.symm (by assumption) | exact nA ok (by omega) (by omega) (by omega)) ?_) (by omega) (by first | decide | omega) ?_
  refine x_if_ne 26 dX12_reason_18 (by decide) (fun c18 => ?_) (fun c18 => ?_)
  · refine x_iload_n 2 dX12_reason_26 rfl rfl ?_
    refine x_if_eq 39 dX12_reason_27 (by decide) (fun c27 => ?_) (fun c27 => ?_)
    · first | refine x_aload_n 0 dX12_reason_39 rfl rfl ?_ | refine x_aload_nN 0 dX12_reason_39 rfl rfl ?_
      refine x_get fX12_22 rfl dX12_reason_40 (by with_reducible repeat first | assumption | exact mH_0 ok | exact mH_1 | exact hset_s | refine mH_o (by first | assumption | exact nA ok (by omega) (by omega) (by omega)) (by first | assumption | exact nA ok (by omega) (by omega) (by omega)) ?_ | refine hget_n (by first | assumption | exact Ne.symm (by assumption) | exact nA ok (by omega) (by omega) (by omega)) ?_) (by rfl) ?_
      refine x_iload_n 1 dX12_reason_43 rfl rfl ?_
      refine x_ialdn dX12_reason_44 (by with_reducible repeat first | assumption | exact mH_0 ok | exact mH_1 | exact hset_s | refine mH_o (by first | assumption | exact nA ok (by omega) (by omega) (by omega)) (by first | assumption | exact nA ok (by omega) (by omega) (by omega)) ?_ | refine hget_n (by first | assumption | exact Ne.symm (by assumption) | exact nA ok (by omega) (by omega) (by omega)) ?_) (by omega) (by first | decide | omega) ?_
      refine x_iret rfl dX12_reason_45 ?_
      refine ⟨congrArg (fun z => some (Value.int z)) ?_, rfl⟩
      first | (rw [if_pos c18]; done) | (rw [if_neg c18, if_pos c27]; done) | (rw [if_neg c18, if_neg c27]; done)
    · first | refine x_aload_n 0 dX12_reason_30 rfl rfl ?_ | refine x_aload_nN 0 dX12_reason_30 rfl rfl ?_
      refine x_get fX12_25 rfl dX12_reason_31 (by with_reducible repeat first | assumption | exact mH_0 ok | exact mH_1 | exact hset_s | refine mH_o (by first | assumption | exact nA ok (by omega) (by omega) (by omega)) (by first | assumption | exact nA ok (by omega) (by omega) (by omega)) ?_ | refine hget_n (by first | assumption | exact Ne.symm (by assumption) | exact nA ok (by omega) (by omega) (by omega)) ?_) (by rfl) ?_
      refine x_iload_n 1 dX12_reason_34 rfl rfl ?_
      refine x_ialdn dX12_reason_35 (by with_reducible repeat first | assumption | exact mH_0 ok | exact mH_1 | exact hset_s | refine mH_o (by first | assumption | exact nA ok (by omega) (by omega) (by omega)) (by first | assumption | exact nA ok (by omega) (by omega) (by omega)) ?_ | refine hget_n (by first | assumption | exact Ne.symm (by assumption) | exact nA ok (by omega) (by omega) (by omega)) ?_) (by omega) (by first | decide | omega) ?_
      refine x_goto 45 dX12_reason_36 (by decide) ?_
      refine x_iret rfl dX12_reason_45 ?_
      refine ⟨congrArg (fun z => some (Value.int z)) ?_, rfl⟩
      first | (rw [if_pos c18]; done) | (rw [if_neg c18, if_pos c27]; done) | (rw [if_neg c18, if_neg c27]; done)
  · refine x_bipush (v := -4) dX12_reason_21 rfl ?_
    refine x_goto 45 dX12_reason_23 (by decide) ?_
    refine x_iret rfl dX12_reason_45 ?_
    refine ⟨congrArg (fun z => some (Value.int z)) ?_, rfl⟩
    first | (rw [if_pos c18]; done) | (rw [if_neg c18, if_pos c27]; done) | (rw [if_neg c18, if_neg c27]; done)
set_option maxRecDepth 100000 in
set_option maxHeartbeats 1000000 in
theorem ct_reason_out {l : Launch} {G : Gl} {h : Hp} {sv rem typ err lin why wha beh its siz att wro tol : Int32} {N : Nat → Int32} (ok : Ok G) (x y : Int32) (hx : inI x 0 2 = 0) : CtR l G mX12_reason 3 [.ref (Ad G 20), .int x, .int y] (mH G h (eMd G sv rem typ err lin why wha beh its siz att wro tol) N) (some (.int (-2))) (mH G h (eMd G sv rem typ err lin why wha beh its siz att wro tol) N) := by
  refine Ct.of (L := [(0, _), (1, _), (2, _)]) (by decide) (ble rfl) rfl ?_
  refine x_iload_n 1 dX12_reason_0 rfl rfl ?_
  refine x_iconst (v := 0) dX12_reason_1 rfl ?_
  refine x_iconst (v := 2) dX12_reason_2 rfl ?_
  refine x_cS1 (As := [.int _, .int _, .int _]) (ct_X12_isIn _ _ _) vX12_74 rfl rfl ⟨ble rfl, ble rfl⟩ (ble rfl) dX12_reason_3 rfl ?_
  refine x_if_ne 12 dX12_reason_6 (by decide) (fun z => by first | exact absurd z (fun z => z hx) | exact absurd (fun z => z hx) z) (fun _ => ?_)
  refine x_bipush (v := -2) dX12_reason_9 rfl ?_
  refine x_iret rfl dX12_reason_11 ?_
  exact ⟨rfl, rfl⟩
set_option maxRecDepth 100000 in
set_option maxHeartbeats 1000000 in
theorem ct_written_in {l : Launch} {G : Gl} {h : Hp} {sv rem typ err why wha beh its siz att wro tol : Int32} {N : Nat → Int32} (ok : Ok G) {lv : Nat → Int32} (hline : h (Ad G 28) = some (eI G 60 lv)) {m i : Nat} (hm : m ≤ 60) (hi : i < m) : CtR l G mX12_written 3 [.ref (Ad G 20), .int (nI i)] (mH G h (eMd G sv rem typ err (nI m) why wha beh its siz att wro tol) N) (some (.int (lv i))) (mH G h (eMd G sv rem typ err (nI m) why wha beh its siz att wro tol) N) := by
  have hwi : ¬ inI (nI i) 0 (nI m - 1) = 0 := by rw [inI_p (by omega), if_pos ⟨nI_pos' (by omega), nI_lt hi (by omega)⟩]; decide
  refine Ct.of (L := [(0, _), (1, _)]) (by decide) (ble rfl) rfl ?_
  refine x_iload_n 1 dX12_written_0 rfl rfl ?_
  refine x_iconst (v := 0) dX12_written_1 rfl ?_
  first | refine x_aload_n 0 dX12_written_2 rfl rfl ?_ | refine x_aload_nN 0 dX12_written_2 rfl rfl ?_
  refine x_get fX12_239 rfl dX12_written_3 (by with_reducible repeat first | assumption | exact mH_0 ok | exact mH_1 | exact hset_s | refine mH_o (by first | assumption | exact nA ok (by omega) (by omega) (by omega)) (by first | assumption | exact nA ok (by omega) (by omega) (by omega)) ?_ | refine hget_n (by first | assumption | exact Ne.symm (by assumption) | exact nA ok (by omega) (by omega) (by omega)) ?_) (by rfl) ?_
  refine x_iconst (v := 1) dX12_written_6 rfl ?_
  refine x_isub dX12_written_7 ?_
  refine x_cS1 (As := [.int _, .int _, .int _]) (ct_X12_isIn _ _ _) vX12_74 rfl rfl ⟨ble rfl, ble rfl⟩ (ble rfl) dX12_written_8 rfl ?_
  refine x_if_eq 23 dX12_written_11 (by decide) (fun z => by first | exact absurd z (hwi) | exact absurd (hwi) z) (fun _ => ?_)
  first | refine x_aload_n 0 dX12_written_14 rfl rfl ?_ | refine x_aload_nN 0 dX12_written_14 rfl rfl ?_
  refine x_get fX12_35 rfl dX12_written_15 (by with_reducible repeat first | assumption | exact mH_0 ok | exact mH_1 | exact hset_s | refine mH_o (by first | assumption | exact nA ok (by omega) (by omega) (by omega)) (by first | assumption | exact nA ok (by omega) (by omega) (by omega)) ?_ | refine hget_n (by first | assumption | exact Ne.symm (by assumption) | exact nA ok (by omega) (by omega) (by omega)) ?_) (by rfl) ?_
  refine x_iload_n 1 dX12_written_18 rfl rfl ?_
  refine x_ialdn dX12_written_19 (by with_reducible repeat first | assumption | exact mH_0 ok | exact mH_1 | exact hset_s | refine mH_o (by first | assumption | exact nA ok (by omega) (by omega) (by omega)) (by first | assumption | exact nA ok (by omega) (by omega) (by omega)) ?_ | refine hget_n (by first | assumption | exact Ne.symm (by assumption) | exact nA ok (by omega) (by omega) (by omega)) ?_) (by omega) (by first | decide | omega) ?_
  refine x_goto 24 dX12_written_20 (by decide) ?_
  refine x_iret rfl dX12_written_24 ?_
  exact ⟨rfl, rfl⟩
set_option maxRecDepth 100000 in
set_option maxHeartbeats 1000000 in
theorem ct_written_out {l : Launch} {G : Gl} {h : Hp} {sv rem typ err why wha beh its siz att wro tol : Int32} {N : Nat → Int32} (ok : Ok G) {m : Nat} (hm : m ≤ 60) (x : Int32) (hx : ¬ (0 ≤ x ∧ x < nI m)) : CtR l G mX12_written 3 [.ref (Ad G 20), .int x] (mH G h (eMd G sv rem typ err (nI m) why wha beh its siz att wro tol) N) (some (.int (-1))) (mH G h (eMd G sv rem typ err (nI m) why wha beh its siz att wro tol) N) := by
  have hwi : inI x 0 (nI m - 1) = 0 := by rw [inI_p (by omega), if_neg hx]
  refine Ct.of (L := [(0, _), (1, _)]) (by decide) (ble rfl) rfl ?_
  refine x_iload_n 1 dX12_written_0 rfl rfl ?_
  refine x_iconst (v := 0) dX12_written_1 rfl ?_
  first | refine x_aload_n 0 dX12_written_2 rfl rfl ?_ | refine x_aload_nN 0 dX12_written_2 rfl rfl ?_
  refine x_get fX12_239 rfl dX12_written_3 (by with_reducible repeat first | assumption | exact mH_0 ok | exact mH_1 | exact hset_s | refine mH_o (by first | assumption | exact nA ok (by omega) (by omega) (by omega)) (by first | assumption | exact nA ok (by omega) (by omega) (by omega)) ?_ | refine hget_n (by first | assumption | exact Ne.symm (by assumption) | exact nA ok (by omega) (by omega) (by omega)) ?_) (by rfl) ?_
  refine x_iconst (v := 1) dX12_written_6 rfl ?_
  refine x_isub dX12_written_7 ?_
  refine x_cS1 (As := [.int _, .int _, .int _]) (ct_X12_isIn _ _ _) vX12_74 rfl rfl ⟨ble rfl, ble rfl⟩ (ble rfl) dX12_written_8 rfl ?_
  refine x_if_eq 23 dX12_written_11 (by decide) (fun _ => ?_) (fun z => by first | exact absurd (hwi) z | exact absurd z (hwi))
  refine x_iconst (v := -1) dX12_written_23 rfl ?_
  refine x_iret rfl dX12_written_24 ?_
  exact ⟨rfl, rfl⟩
set_option maxRecDepth 100000 in
set_option maxHeartbeats 1000000 in
theorem ct_append_y {l : Launch} {G : Gl} {h : Hp} {sv rem err lin why wha beh its siz att wro tol : Int32} {N : Nat → Int32} (ok : Ok G) {tv : Nat → Int32} (htext : h (Ad G 27) = some (eI G 60 tv)) {m : Nat} (hm : m < 60) {c : Int32} (hc : ¬ inI c 32 126 = 0) : CtR l G mX12_append 3 [.ref (Ad G 20), .int c] (mH G h (eMd G sv rem (nI m) err lin why wha beh its siz att wro tol) N) (some (.int (nI (m + 1)))) (mH G (hset h (Ad G 27) (eI G 60 (upd tv m c))) (eMd G sv rem (nI (m + 1)) err lin why wha beh its siz att wro tol) N) := by
  have n2 : ∀ i, 21 < i → i < 32 → Ad G i ≠ Ad G 20 ∧ Ad G i ≠ Ad G 21 := fun i h1 h2 => ⟨nA ok (by omega) (by omega) (by omega), nA ok (by omega) (by omega) (by omega)⟩
  obtain ⟨m27a, m27b⟩ := n2 27 (by omega) (by omega)
  refine Ct.of (L := [(0, _), (1, _)]) (by decide) (ble rfl) rfl ?_
  refine x_iload_n 1 dX12_append_0 rfl rfl ?_
  refine x_bipush (v := 32) dX12_append_1 rfl ?_
  refine x_bipush (v := 126) dX12_append_3 rfl ?_
  refine x_cS1 (As := [.int _, .int _, .int _]) (ct_X12_isIn _ _ _) vX12_74 rfl rfl ⟨ble rfl, ble rfl⟩ (ble rfl) dX12_append_5 rfl ?_
  refine x_if_eq 20 dX12_append_8 (by decide) (fun z => by first | exact absurd z (hc) | exact absurd (hc) z) (fun _ => ?_)
  first | refine x_aload_n 0 dX12_append_11 rfl rfl ?_ | refine x_aload_nN 0 dX12_append_11 rfl rfl ?_
  refine x_get fX12_216 rfl dX12_append_12 (by with_reducible repeat first | assumption | exact mH_0 ok | exact mH_1 | exact hset_s | refine mH_o (by first | assumption | exact nA ok (by omega) (by omega) (by omega)) (by first | assumption | exact nA ok (by omega) (by omega) (by omega)) ?_ | refine hget_n (by first | assumption | exact Ne.symm (by assumption) | exact nA ok (by omega) (by omega) (by omega)) ?_) (by rfl) ?_
  refine x_bipush (v := 60) dX12_append_15 rfl ?_
  refine x_icmp_ne 23 dX12_append_17 (by decide) (fun _ => ?_) (fun z => by first | exact absurd (show ¬ nI m = nI 60 from fun z => by have := (nI_eq (by omega) (by omega)).mp z; omega) z | exact absurd z (show ¬ nI m = nI 60 from fun z => by have := (nI_eq (by omega) (by omega)).mp z; omega))
  first | refine x_aload_n 0 dX12_append_23 rfl rfl ?_ | refine x_aload_nN 0 dX12_append_23 rfl rfl ?_
  refine x_get fX12_28 rfl dX12_append_24 (by with_reducible repeat first | assumption | exact mH_0 ok | exact mH_1 | exact hset_s | refine mH_o (by first | assumption | exact nA ok (by omega) (by omega) (by omega)) (by first | assumption | exact nA ok (by omega) (by omega) (by omega)) ?_ | refine hget_n (by first | assumption | exact Ne.symm (by assumption) | exact nA ok (by omega) (by omega) (by omega)) ?_) (by rfl) ?_
  first | refine x_aload_n 0 dX12_append_27 rfl rfl ?_ | refine x_aload_nN 0 dX12_append_27 rfl rfl ?_
  refine x_get fX12_216 rfl dX12_append_28 (by with_reducible repeat first | assumption | exact mH_0 ok | exact mH_1 | exact hset_s | refine mH_o (by first | assumption | exact nA ok (by omega) (by omega) (by omega)) (by first | assumption | exact nA ok (by omega) (by omega) (by omega)) ?_ | refine hget_n (by first | assumption | exact Ne.symm (by assumption) | exact nA ok (by omega) (by omega) (by omega)) ?_) (by rfl) ?_
  refine x_iload_n 1 dX12_append_31 rfl rfl ?_
  refine x_iastn dX12_append_32 (by with_reducible repeat first | assumption | exact mH_0 ok | exact mH_1 | exact hset_s | refine mH_o (by first | assumption | exact nA ok (by omega) (by omega) (by omega)) (by first | assumption | exact nA ok (by omega) (by omega) (by omega)) ?_ | refine hget_n (by first | assumption | exact Ne.symm (by assumption) | exact nA ok (by omega) (by omega) (by omega)) ?_) (by omega) (by first | decide | omega) (by first | assumption | exact aA (by assumption) (by omega)) ?_
  refine x_eqH (mH_c m27a m27b) ?_
  first | refine x_aload_n 0 dX12_append_33 rfl rfl ?_ | refine x_aload_nN 0 dX12_append_33 rfl rfl ?_
  refine x_dup dX12_append_34 rfl ?_
  refine x_get fX12_216 rfl dX12_append_35 (by with_reducible repeat first | assumption | exact mH_0 ok | exact mH_1 | exact hset_s | refine mH_o (by first | assumption | exact nA ok (by omega) (by omega) (by omega)) (by first | assumption | exact nA ok (by omega) (by omega) (by omega)) ?_ | refine hget_n (by first | assumption | exact Ne.symm (by assumption) | exact nA ok (by omega) (by omega) (by omega)) ?_) (by rfl) ?_
  refine x_iconst (v := 1) dX12_append_38 rfl ?_
  refine x_iadd dX12_append_39 ?_
  rw [nI_1]
  refine x_mput ok fX12_216 rfl rfl rfl rfl dX12_append_40 (by exact ble rfl) ?_
  first | refine x_aload_n 0 dX12_append_43 rfl rfl ?_ | refine x_aload_nN 0 dX12_append_43 rfl rfl ?_
  refine x_get fX12_216 rfl dX12_append_44 (by with_reducible repeat first | assumption | exact mH_0 ok | exact mH_1 | exact hset_s | refine mH_o (by first | assumption | exact nA ok (by omega) (by omega) (by omega)) (by first | assumption | exact nA ok (by omega) (by omega) (by omega)) ?_ | refine hget_n (by first | assumption | exact Ne.symm (by assumption) | exact nA ok (by omega) (by omega) (by omega)) ?_) (by rfl) ?_
  refine x_iret rfl dX12_append_47 ?_
  exact ⟨rfl, rfl⟩
set_option maxRecDepth 100000 in
set_option maxHeartbeats 1000000 in
theorem ct_append_n {l : Launch} {G : Gl} {h : Hp} {sv rem typ err lin why wha beh its siz att wro tol : Int32} {N : Nat → Int32} (ok : Ok G) {c : Int32} (hc : inI c 32 126 = 0) : CtR l G mX12_append 3 [.ref (Ad G 20), .int c] (mH G h (eMd G sv rem typ err lin why wha beh its siz att wro tol) N) (some (.int (-2))) (mH G h (eMd G sv rem typ err lin why wha beh its siz att wro tol) N) := by
  refine Ct.of (L := [(0, _), (1, _)]) (by decide) (ble rfl) rfl ?_
  refine x_iload_n 1 dX12_append_0 rfl rfl ?_
  refine x_bipush (v := 32) dX12_append_1 rfl ?_
  refine x_bipush (v := 126) dX12_append_3 rfl ?_
  refine x_cS1 (As := [.int _, .int _, .int _]) (ct_X12_isIn _ _ _) vX12_74 rfl rfl ⟨ble rfl, ble rfl⟩ (ble rfl) dX12_append_5 rfl ?_
  refine x_if_eq 20 dX12_append_8 (by decide) (fun _ => ?_) (fun z => by first | exact absurd (hc) z | exact absurd z (hc))
  refine x_bipush (v := -2) dX12_append_20 rfl ?_
  refine x_iret rfl dX12_append_22 ?_
  exact ⟨rfl, rfl⟩
set_option maxRecDepth 100000 in
set_option maxHeartbeats 1000000 in
theorem ct_append_f {l : Launch} {G : Gl} {h : Hp} {sv rem err lin why wha beh its siz att wro tol : Int32} {N : Nat → Int32} (ok : Ok G) {c : Int32} (hc : ¬ inI c 32 126 = 0) : CtR l G mX12_append 3 [.ref (Ad G 20), .int c] (mH G h (eMd G sv rem 60 err lin why wha beh its siz att wro tol) N) (some (.int (-2))) (mH G h (eMd G sv rem 60 err lin why wha beh its siz att wro tol) N) := by
  refine Ct.of (L := [(0, _), (1, _)]) (by decide) (ble rfl) rfl ?_
  refine x_iload_n 1 dX12_append_0 rfl rfl ?_
  refine x_bipush (v := 32) dX12_append_1 rfl ?_
  refine x_bipush (v := 126) dX12_append_3 rfl ?_
  refine x_cS1 (As := [.int _, .int _, .int _]) (ct_X12_isIn _ _ _) vX12_74 rfl rfl ⟨ble rfl, ble rfl⟩ (ble rfl) dX12_append_5 rfl ?_
  refine x_if_eq 20 dX12_append_8 (by decide) (fun z => by first | exact absurd z (hc) | exact absurd (hc) z) (fun _ => ?_)
  first | refine x_aload_n 0 dX12_append_11 rfl rfl ?_ | refine x_aload_nN 0 dX12_append_11 rfl rfl ?_
  refine x_get fX12_216 rfl dX12_append_12 (by with_reducible repeat first | assumption | exact mH_0 ok | exact mH_1 | exact hset_s | refine mH_o (by first | assumption | exact nA ok (by omega) (by omega) (by omega)) (by first | assumption | exact nA ok (by omega) (by omega) (by omega)) ?_ | refine hget_n (by first | assumption | exact Ne.symm (by assumption) | exact nA ok (by omega) (by omega) (by omega)) ?_) (by rfl) ?_
  refine x_bipush (v := 60) dX12_append_15 rfl ?_
  refine x_icmp_ne 23 dX12_append_17 (by decide) (fun z => by first | exact absurd z (fun z => z rfl) | exact absurd (fun z => z rfl) z) (fun _ => ?_)
  refine x_bipush (v := -2) dX12_append_20 rfl ?_
  refine x_iret rfl dX12_append_22 ?_
  exact ⟨rfl, rfl⟩
