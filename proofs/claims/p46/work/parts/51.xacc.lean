set_option maxRecDepth 100000 in
set_option maxHeartbeats 1000000 in
theorem ct_xaccount_0 {l : Launch} {G : Gl} {h : Hp} {isv flt : Int32} (ok : Ok G) (hst : h (Ad G 0) = some (eSt G isv flt)) {N : Nat → Int32} {ns np no : Nat} (H : ShW G h 1000 N ns np no) : Ct l G mX11_account 6 (0) (0) [.ref (Ad G 0), .int (nI 0)] h (fun w h' => w = some (.int (N 0)) ∧ h' = h) := by
  obtain ⟨hsh, has, hap, hao, ⟨gp, hag⟩, hns, hnp, hno, bs, bp, bo, hS, hP, hO, -⟩ := id H
  refine Ct.of (L := [(0, _), (1, _)]) (by decide) (ble rfl) rfl ?_
  refine x_iload_n 1 dX11_account_0 rfl rfl ?_
  refine x_tableIn 80 dX11_account_1 (by decide) (by decide) (by rfl) (by decide) ?_
  first | refine x_aload_n 0 dX11_account_80 rfl rfl ?_ | refine x_aload_nN 0 dX11_account_80 rfl rfl ?_
  refine x_get fX11_20 rfl dX11_account_81 (by with_reducible repeat first | assumption | exact hset_s | refine hget_n (by first | assumption | exact Ne.symm (by assumption) | exact nA ok (by omega) (by omega) (by omega)) ?_) (by rfl) ?_
  refine x_get fX11_271 rfl dX11_account_84 (by with_reducible repeat first | assumption | exact hset_s | refine hget_n (by first | assumption | exact Ne.symm (by assumption) | exact nA ok (by omega) (by omega) (by omega)) ?_) (by rfl) ?_
  refine x_iret rfl dX11_account_87 ?_
  show some (Value.int (N 0)) = some (Value.int (N 0)) ∧ h = h
  exact ⟨rfl, rfl⟩
set_option maxRecDepth 100000 in
set_option maxHeartbeats 1000000 in
theorem ct_xaccount_1 {l : Launch} {G : Gl} {h : Hp} {isv flt : Int32} (ok : Ok G) (hst : h (Ad G 0) = some (eSt G isv flt)) {N : Nat → Int32} {ns np no : Nat} (H : ShW G h 1000 N ns np no) : Ct l G mX11_account 6 (0) (0) [.ref (Ad G 0), .int (nI 1)] h (fun w h' => w = some (.int (N 1)) ∧ h' = h) := by
  obtain ⟨hsh, has, hap, hao, ⟨gp, hag⟩, hns, hnp, hno, bs, bp, bo, hS, hP, hO, -⟩ := id H
  refine Ct.of (L := [(0, _), (1, _)]) (by decide) (ble rfl) rfl ?_
  refine x_iload_n 1 dX11_account_0 rfl rfl ?_
  refine x_tableIn 88 dX11_account_1 (by decide) (by decide) (by rfl) (by decide) ?_
  first | refine x_aload_n 0 dX11_account_88 rfl rfl ?_ | refine x_aload_nN 0 dX11_account_88 rfl rfl ?_
  refine x_get fX11_20 rfl dX11_account_89 (by with_reducible repeat first | assumption | exact hset_s | refine hget_n (by first | assumption | exact Ne.symm (by assumption) | exact nA ok (by omega) (by omega) (by omega)) ?_) (by rfl) ?_
  refine x_get fX11_274 rfl dX11_account_92 (by with_reducible repeat first | assumption | exact hset_s | refine hget_n (by first | assumption | exact Ne.symm (by assumption) | exact nA ok (by omega) (by omega) (by omega)) ?_) (by rfl) ?_
  refine x_iret rfl dX11_account_95 ?_
  show some (Value.int (N 1)) = some (Value.int (N 1)) ∧ h = h
  exact ⟨rfl, rfl⟩
set_option maxRecDepth 100000 in
set_option maxHeartbeats 1000000 in
theorem ct_xaccount_2 {l : Launch} {G : Gl} {h : Hp} {isv flt : Int32} (ok : Ok G) (hst : h (Ad G 0) = some (eSt G isv flt)) {N : Nat → Int32} {ns np no : Nat} (H : ShW G h 1000 N ns np no) : Ct l G mX11_account 6 (0) (0) [.ref (Ad G 0), .int (nI 2)] h (fun w h' => w = some (.int (N 2)) ∧ h' = h) := by
  obtain ⟨hsh, has, hap, hao, ⟨gp, hag⟩, hns, hnp, hno, bs, bp, bo, hS, hP, hO, -⟩ := id H
  refine Ct.of (L := [(0, _), (1, _)]) (by decide) (ble rfl) rfl ?_
  refine x_iload_n 1 dX11_account_0 rfl rfl ?_
  refine x_tableIn 96 dX11_account_1 (by decide) (by decide) (by rfl) (by decide) ?_
  first | refine x_aload_n 0 dX11_account_96 rfl rfl ?_ | refine x_aload_nN 0 dX11_account_96 rfl rfl ?_
  refine x_get fX11_20 rfl dX11_account_97 (by with_reducible repeat first | assumption | exact hset_s | refine hget_n (by first | assumption | exact Ne.symm (by assumption) | exact nA ok (by omega) (by omega) (by omega)) ?_) (by rfl) ?_
  refine x_get fX11_277 rfl dX11_account_100 (by with_reducible repeat first | assumption | exact hset_s | refine hget_n (by first | assumption | exact Ne.symm (by assumption) | exact nA ok (by omega) (by omega) (by omega)) ?_) (by rfl) ?_
  refine x_iret rfl dX11_account_103 ?_
  show some (Value.int (N 2)) = some (Value.int (N 2)) ∧ h = h
  exact ⟨rfl, rfl⟩
set_option maxRecDepth 100000 in
set_option maxHeartbeats 1000000 in
theorem ct_xaccount_3 {l : Launch} {G : Gl} {h : Hp} {isv flt : Int32} (ok : Ok G) (hst : h (Ad G 0) = some (eSt G isv flt)) {N : Nat → Int32} {ns np no : Nat} (H : ShW G h 1000 N ns np no) : Ct l G mX11_account 6 (0) (0) [.ref (Ad G 0), .int (nI 3)] h (fun w h' => w = some (.int (N 3)) ∧ h' = h) := by
  obtain ⟨hsh, has, hap, hao, ⟨gp, hag⟩, hns, hnp, hno, bs, bp, bo, hS, hP, hO, -⟩ := id H
  refine Ct.of (L := [(0, _), (1, _)]) (by decide) (ble rfl) rfl ?_
  refine x_iload_n 1 dX11_account_0 rfl rfl ?_
  refine x_tableIn 104 dX11_account_1 (by decide) (by decide) (by rfl) (by decide) ?_
  first | refine x_aload_n 0 dX11_account_104 rfl rfl ?_ | refine x_aload_nN 0 dX11_account_104 rfl rfl ?_
  refine x_get fX11_20 rfl dX11_account_105 (by with_reducible repeat first | assumption | exact hset_s | refine hget_n (by first | assumption | exact Ne.symm (by assumption) | exact nA ok (by omega) (by omega) (by omega)) ?_) (by rfl) ?_
  refine x_get fX11_68 rfl dX11_account_108 (by with_reducible repeat first | assumption | exact hset_s | refine hget_n (by first | assumption | exact Ne.symm (by assumption) | exact nA ok (by omega) (by omega) (by omega)) ?_) (by rfl) ?_
  refine x_iret rfl dX11_account_111 ?_
  show some (Value.int (N 3)) = some (Value.int (N 3)) ∧ h = h
  exact ⟨rfl, rfl⟩
set_option maxRecDepth 100000 in
set_option maxHeartbeats 1000000 in
theorem ct_xaccount_4 {l : Launch} {G : Gl} {h : Hp} {isv flt : Int32} (ok : Ok G) (hst : h (Ad G 0) = some (eSt G isv flt)) {N : Nat → Int32} {ns np no : Nat} (H : ShW G h 1000 N ns np no) : Ct l G mX11_account 6 (0) (0) [.ref (Ad G 0), .int (nI 4)] h (fun w h' => w = some (.int (N 3 - sm (fun i => soldK (N (191 + 5 * i))) no)) ∧ h' = h) := by
  obtain ⟨hsh, has, hap, hao, ⟨gp, hag⟩, hns, hnp, hno, bs, bp, bo, hS, hP, hO, -⟩ := id H
  refine Ct.of (L := [(0, _), (1, _)]) (by decide) (ble rfl) rfl ?_
  refine x_iload_n 1 dX11_account_0 rfl rfl ?_
  refine x_tableIn 112 dX11_account_1 (by decide) (by decide) (by rfl) (by decide) ?_
  first | refine x_aload_n 0 dX11_account_112 rfl rfl ?_ | refine x_aload_nN 0 dX11_account_112 rfl rfl ?_
  refine x_get fX11_20 rfl dX11_account_113 (by with_reducible repeat first | assumption | exact hset_s | refine hget_n (by first | assumption | exact Ne.symm (by assumption) | exact nA ok (by omega) (by omega) (by omega)) ?_) (by rfl) ?_
  refine x_get fX11_68 rfl dX11_account_116 (by with_reducible repeat first | assumption | exact hset_s | refine hget_n (by first | assumption | exact Ne.symm (by assumption) | exact nA ok (by omega) (by omega) (by omega)) ?_) (by rfl) ?_
  first | refine x_aload_n 0 dX11_account_119 rfl rfl ?_ | refine x_aload_nN 0 dX11_account_119 rfl rfl ?_
  refine x_get fX11_20 rfl dX11_account_120 (by with_reducible repeat first | assumption | exact hset_s | refine hget_n (by first | assumption | exact Ne.symm (by assumption) | exact nA ok (by omega) (by omega) (by omega)) ?_) (by rfl) ?_
  refine x_cV1 (As := []) (ct_X8_soldPots ok (by omega) H) vX11_268 rfl (x_recv (by with_reducible repeat first | assumption | exact hset_s | refine hget_n (by first | assumption | exact Ne.symm (by assumption) | exact nA ok (by omega) (by omega) (by omega)) ?_) rfl) rfl ⟨ble rfl, ble rfl⟩ (ble rfl) dX11_account_123 rfl ?_
  refine x_isub dX11_account_126 ?_
  refine x_iret rfl dX11_account_127 ?_
  show some (Value.int (N 3 - sm (fun i => soldK (N (191 + 5 * i))) no)) = some (Value.int (N 3 - sm (fun i => soldK (N (191 + 5 * i))) no)) ∧ h = h
  exact ⟨rfl, rfl⟩
set_option maxRecDepth 100000 in
set_option maxHeartbeats 1000000 in
theorem ct_xaccount_5 {l : Launch} {G : Gl} {h : Hp} {isv flt : Int32} (ok : Ok G) (hst : h (Ad G 0) = some (eSt G isv flt)) {N : Nat → Int32} {ns np no : Nat} (H : ShW G h 1000 N ns np no) : Ct l G mX11_account 6 (0) (0) [.ref (Ad G 0), .int (nI 5)] h (fun w h' => w = some (.int (sm (fun i => tlP (kOf (N (60 + 8 * i))) (N (67 + 8 * i)) (N (61 + 8 * i)) (N (62 + 8 * i)) (N (63 + 8 * i)) (N (64 + 8 * i)) (N (66 + 8 * i)) 6) np)) ∧ h' = h) := by
  obtain ⟨hsh, has, hap, hao, ⟨gp, hag⟩, hns, hnp, hno, bs, bp, bo, hS, hP, hO, -⟩ := id H
  refine Ct.of (L := [(0, _), (1, _)]) (by decide) (ble rfl) rfl ?_
  refine x_iload_n 1 dX11_account_0 rfl rfl ?_
  refine x_tableIn 128 dX11_account_1 (by decide) (by decide) (by rfl) (by decide) ?_
  first | refine x_aload_n 0 dX11_account_128 rfl rfl ?_ | refine x_aload_nN 0 dX11_account_128 rfl rfl ?_
  refine x_get fX11_20 rfl dX11_account_129 (by with_reducible repeat first | assumption | exact hset_s | refine hget_n (by first | assumption | exact Ne.symm (by assumption) | exact nA ok (by omega) (by omega) (by omega)) ?_) (by rfl) ?_
  refine x_bipush (v := 6) dX11_account_132 rfl ?_
  refine x_cV1 (As := [.int _]) (ct_X8_sumOfPots ok (by omega) H _) vX11_280 rfl (x_recv (by with_reducible repeat first | assumption | exact hset_s | refine hget_n (by first | assumption | exact Ne.symm (by assumption) | exact nA ok (by omega) (by omega) (by omega)) ?_) rfl) rfl ⟨ble rfl, ble rfl⟩ (ble rfl) dX11_account_134 rfl ?_
  refine x_iret rfl dX11_account_137 ?_
  show some (Value.int (sm (fun i => tlP (kOf (N (60 + 8 * i))) (N (67 + 8 * i)) (N (61 + 8 * i)) (N (62 + 8 * i)) (N (63 + 8 * i)) (N (64 + 8 * i)) (N (66 + 8 * i)) 6) np)) = some (Value.int (sm (fun i => tlP (kOf (N (60 + 8 * i))) (N (67 + 8 * i)) (N (61 + 8 * i)) (N (62 + 8 * i)) (N (63 + 8 * i)) (N (64 + 8 * i)) (N (66 + 8 * i)) 6) np)) ∧ h = h
  exact ⟨rfl, rfl⟩
set_option maxRecDepth 100000 in
set_option maxHeartbeats 1000000 in
theorem ct_xaccount_6 {l : Launch} {G : Gl} {h : Hp} {isv flt : Int32} (ok : Ok G) (hst : h (Ad G 0) = some (eSt G isv flt)) {N : Nat → Int32} {ns np no : Nat} (H : ShW G h 1000 N ns np no) : Ct l G mX11_account 6 (0) (0) [.ref (Ad G 0), .int (nI 6)] h (fun w h' => w = some (.int (sm (fun i => tlP (kOf (N (60 + 8 * i))) (N (67 + 8 * i)) (N (61 + 8 * i)) (N (62 + 8 * i)) (N (63 + 8 * i)) (N (64 + 8 * i)) (N (66 + 8 * i)) 7) np)) ∧ h' = h) := by
  obtain ⟨hsh, has, hap, hao, ⟨gp, hag⟩, hns, hnp, hno, bs, bp, bo, hS, hP, hO, -⟩ := id H
  refine Ct.of (L := [(0, _), (1, _)]) (by decide) (ble rfl) rfl ?_
  refine x_iload_n 1 dX11_account_0 rfl rfl ?_
  refine x_tableIn 138 dX11_account_1 (by decide) (by decide) (by rfl) (by decide) ?_
  first | refine x_aload_n 0 dX11_account_138 rfl rfl ?_ | refine x_aload_nN 0 dX11_account_138 rfl rfl ?_
  refine x_get fX11_20 rfl dX11_account_139 (by with_reducible repeat first | assumption | exact hset_s | refine hget_n (by first | assumption | exact Ne.symm (by assumption) | exact nA ok (by omega) (by omega) (by omega)) ?_) (by rfl) ?_
  refine x_bipush (v := 7) dX11_account_142 rfl ?_
  refine x_cV1 (As := [.int _]) (ct_X8_sumOfPots ok (by omega) H _) vX11_280 rfl (x_recv (by with_reducible repeat first | assumption | exact hset_s | refine hget_n (by first | assumption | exact Ne.symm (by assumption) | exact nA ok (by omega) (by omega) (by omega)) ?_) rfl) rfl ⟨ble rfl, ble rfl⟩ (ble rfl) dX11_account_144 rfl ?_
  refine x_iret rfl dX11_account_147 ?_
  show some (Value.int (sm (fun i => tlP (kOf (N (60 + 8 * i))) (N (67 + 8 * i)) (N (61 + 8 * i)) (N (62 + 8 * i)) (N (63 + 8 * i)) (N (64 + 8 * i)) (N (66 + 8 * i)) 7) np)) = some (Value.int (sm (fun i => tlP (kOf (N (60 + 8 * i))) (N (67 + 8 * i)) (N (61 + 8 * i)) (N (62 + 8 * i)) (N (63 + 8 * i)) (N (64 + 8 * i)) (N (66 + 8 * i)) 7) np)) ∧ h = h
  exact ⟨rfl, rfl⟩
set_option maxRecDepth 100000 in
set_option maxHeartbeats 1000000 in
theorem ct_xaccount_7 {l : Launch} {G : Gl} {h : Hp} {isv flt : Int32} (ok : Ok G) (hst : h (Ad G 0) = some (eSt G isv flt)) {N : Nat → Int32} {ns np no : Nat} (H : ShW G h 1000 N ns np no) : Ct l G mX11_account 6 (0) (0) [.ref (Ad G 0), .int (nI 7)] h (fun w h' => w = some (.int (N 4)) ∧ h' = h) := by
  obtain ⟨hsh, has, hap, hao, ⟨gp, hag⟩, hns, hnp, hno, bs, bp, bo, hS, hP, hO, -⟩ := id H
  refine Ct.of (L := [(0, _), (1, _)]) (by decide) (ble rfl) rfl ?_
  refine x_iload_n 1 dX11_account_0 rfl rfl ?_
  refine x_tableIn 148 dX11_account_1 (by decide) (by decide) (by rfl) (by decide) ?_
  first | refine x_aload_n 0 dX11_account_148 rfl rfl ?_ | refine x_aload_nN 0 dX11_account_148 rfl rfl ?_
  refine x_get fX11_20 rfl dX11_account_149 (by with_reducible repeat first | assumption | exact hset_s | refine hget_n (by first | assumption | exact Ne.symm (by assumption) | exact nA ok (by omega) (by omega) (by omega)) ?_) (by rfl) ?_
  refine x_get fX11_283 rfl dX11_account_152 (by with_reducible repeat first | assumption | exact hset_s | refine hget_n (by first | assumption | exact Ne.symm (by assumption) | exact nA ok (by omega) (by omega) (by omega)) ?_) (by rfl) ?_
  refine x_iret rfl dX11_account_155 ?_
  show some (Value.int (N 4)) = some (Value.int (N 4)) ∧ h = h
  exact ⟨rfl, rfl⟩
set_option maxRecDepth 100000 in
set_option maxHeartbeats 1000000 in
theorem ct_xaccount_8 {l : Launch} {G : Gl} {h : Hp} {isv flt : Int32} (ok : Ok G) (hst : h (Ad G 0) = some (eSt G isv flt)) {N : Nat → Int32} {ns np no : Nat} (H : ShW G h 1000 N ns np no) : Ct l G mX11_account 6 (0) (0) [.ref (Ad G 0), .int (nI 8)] h (fun w h' => w = some (.int (sm (fun i => soldK (N (191 + 5 * i))) no)) ∧ h' = h) := by
  obtain ⟨hsh, has, hap, hao, ⟨gp, hag⟩, hns, hnp, hno, bs, bp, bo, hS, hP, hO, -⟩ := id H
  refine Ct.of (L := [(0, _), (1, _)]) (by decide) (ble rfl) rfl ?_
  refine x_iload_n 1 dX11_account_0 rfl rfl ?_
  refine x_tableIn 156 dX11_account_1 (by decide) (by decide) (by rfl) (by decide) ?_
  first | refine x_aload_n 0 dX11_account_156 rfl rfl ?_ | refine x_aload_nN 0 dX11_account_156 rfl rfl ?_
  refine x_get fX11_20 rfl dX11_account_157 (by with_reducible repeat first | assumption | exact hset_s | refine hget_n (by first | assumption | exact Ne.symm (by assumption) | exact nA ok (by omega) (by omega) (by omega)) ?_) (by rfl) ?_
  refine x_cV1 (As := []) (ct_X8_soldPots ok (by omega) H) vX11_268 rfl (x_recv (by with_reducible repeat first | assumption | exact hset_s | refine hget_n (by first | assumption | exact Ne.symm (by assumption) | exact nA ok (by omega) (by omega) (by omega)) ?_) rfl) rfl ⟨ble rfl, ble rfl⟩ (ble rfl) dX11_account_160 rfl ?_
  refine x_iret rfl dX11_account_163 ?_
  show some (Value.int (sm (fun i => soldK (N (191 + 5 * i))) no)) = some (Value.int (sm (fun i => soldK (N (191 + 5 * i))) no)) ∧ h = h
  exact ⟨rfl, rfl⟩
set_option maxRecDepth 100000 in
set_option maxHeartbeats 1000000 in
theorem ct_xaccount_13 {l : Launch} {G : Gl} {h : Hp} {isv flt : Int32} (ok : Ok G) (hst : h (Ad G 0) = some (eSt G isv flt)) {N : Nat → Int32} {ns np no : Nat} (H : ShW G h 1000 N ns np no) : Ct l G mX11_account 6 (0) (0) [.ref (Ad G 0), .int (nI 13)] h (fun w h' => w = some (.int (sm (fun i => N (192 + 5 * i)) no)) ∧ h' = h) := by
  obtain ⟨hsh, has, hap, hao, ⟨gp, hag⟩, hns, hnp, hno, bs, bp, bo, hS, hP, hO, -⟩ := id H
  refine Ct.of (L := [(0, _), (1, _)]) (by decide) (ble rfl) rfl ?_
  refine x_iload_n 1 dX11_account_0 rfl rfl ?_
  refine x_tableIn 198 dX11_account_1 (by decide) (by decide) (by rfl) (by decide) ?_
  first | refine x_aload_n 0 dX11_account_198 rfl rfl ?_ | refine x_aload_nN 0 dX11_account_198 rfl rfl ?_
  refine x_get fX11_20 rfl dX11_account_199 (by with_reducible repeat first | assumption | exact hset_s | refine hget_n (by first | assumption | exact Ne.symm (by assumption) | exact nA ok (by omega) (by omega) (by omega)) ?_) (by rfl) ?_
  refine x_cV1 (As := []) (ct_X8_paidSoFar ok (by omega) H) vX11_237 rfl (x_recv (by with_reducible repeat first | assumption | exact hset_s | refine hget_n (by first | assumption | exact Ne.symm (by assumption) | exact nA ok (by omega) (by omega) (by omega)) ?_) rfl) rfl ⟨ble rfl, ble rfl⟩ (ble rfl) dX11_account_202 rfl ?_
  refine x_iret rfl dX11_account_205 ?_
  show some (Value.int (sm (fun i => N (192 + 5 * i)) no)) = some (Value.int (sm (fun i => N (192 + 5 * i)) no)) ∧ h = h
  exact ⟨rfl, rfl⟩
