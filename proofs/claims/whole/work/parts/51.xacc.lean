set_option maxRecDepth 100000 in
set_option maxHeartbeats 4000000 in
theorem ct_xlength {l : Launch} {G : Gl} {h : Hp} (ok : Ok G) {cn att : Int32} (hs : h (Ad G 9) = some (eSc G cn att)) {tx : List Int32} {b : Nat} (T : SBT G h (Ad G 10) tx b) : CtR l G mX6_length 4 [.ref (Ad G 9)] h (some (.int (nI tx.length))) (h) := by
  obtain ⟨mm, ml, f9, h10, hb10, hab, hB, hl, hmm, hfit, hf, hAd⟩ := id T
  refine Ct.of (L := [(0, _)]) (by decide) (ble rfl) rfl ?_
  first | refine x_aload_n 0 dX6_length_0 rfl rfl ?_ | refine x_aload_nN 0 dX6_length_0 rfl rfl ?_
  refine x_get fX6_12 rfl dX6_length_1 (by with_reducible repeat first | assumption | exact hset_s | refine hget_n (by first | assumption | exact Ne.symm (by assumption) | exact nA ok (by omega) (by omega) (by omega)) ?_) (by rfl) ?_
  refine x_cV1 (As := []) (ct_J4_length_8abf5 (by with_reducible repeat first | assumption | exact hset_s | refine hget_n (by first | assumption | exact Ne.symm (by assumption) | exact nA ok (by omega) (by omega) (by omega)) ?_)) vX6_38 rfl (x_recv (by with_reducible repeat first | assumption | exact hset_s | refine hget_n (by first | assumption | exact Ne.symm (by assumption) | exact nA ok (by omega) (by omega) (by omega)) ?_) rfl) rfl ⟨ble rfl, ble rfl⟩ (ble rfl) dX6_length_4 rfl ?_
  refine x_iret rfl dX6_length_7 ?_
  exact ⟨rfl, rfl⟩
set_option maxRecDepth 100000 in
set_option maxHeartbeats 1000000 in
theorem ct_xaccount_0 {l : Launch} {G : Gl} {h : Hp} {isv flt : Int32} (ok : Ok G) (hst : h (Ad G 0) = some (eSt G isv flt)) {N : Nat → Int32} {ns np no : Nat} (H : ShW G h 1000 N ns np no) : Ct l G mX11_account 10 (0) (0) [.ref (Ad G 0), .int (nI 0)] h (fun w h' => w = some (.int (N 0)) ∧ h' = h) := by
  obtain ⟨hsh, has, hap, hao, ⟨gp, hag⟩, hns, hnp, hno, bs, bp, bo, hS, hP, hO, -⟩ := id H
  refine Ct.of (L := [(0, _), (1, _)]) (by decide) (ble rfl) rfl ?_
  refine x_iload_n 1 dX11_account_0 rfl rfl ?_
  refine x_tableIn 80 dX11_account_1 (by decide) (by decide) (by rfl) (by decide) ?_
  first | refine x_aload_n 0 dX11_account_80 rfl rfl ?_ | refine x_aload_nN 0 dX11_account_80 rfl rfl ?_
  refine x_get fX11_20 rfl dX11_account_81 (by with_reducible repeat first | assumption | exact hset_s | refine hget_n (by first | assumption | exact Ne.symm (by assumption) | exact nA ok (by omega) (by omega) (by omega)) ?_) (by rfl) ?_
  refine x_get fX11_271 rfl dX11_account_84 (by with_reducible repeat first | assumption | exact hset_s | refine hget_n (by first | assumption | exact Ne.symm (by assumption) | exact nA ok (by omega) (by omega) (by omega)) ?_) (by rfl) ?_
  refine x_iret rfl dX11_account_87 ?_
  show some (Value.int (N 0)) = some (Value.int (N 0)) ∧ h = h
  exact ⟨rfl, rfl⟩
set_option maxRecDepth 100000 in
set_option maxHeartbeats 1000000 in
theorem ct_xaccount_1 {l : Launch} {G : Gl} {h : Hp} {isv flt : Int32} (ok : Ok G) (hst : h (Ad G 0) = some (eSt G isv flt)) {N : Nat → Int32} {ns np no : Nat} (H : ShW G h 1000 N ns np no) : Ct l G mX11_account 10 (0) (0) [.ref (Ad G 0), .int (nI 1)] h (fun w h' => w = some (.int (N 1)) ∧ h' = h) := by
  obtain ⟨hsh, has, hap, hao, ⟨gp, hag⟩, hns, hnp, hno, bs, bp, bo, hS, hP, hO, -⟩ := id H
  refine Ct.of (L := [(0, _), (1, _)]) (by decide) (ble rfl) rfl ?_
  refine x_iload_n 1 dX11_account_0 rfl rfl ?_
  refine x_tableIn 88 dX11_account_1 (by decide) (by decide) (by rfl) (by decide) ?_
  first | refine x_aload_n 0 dX11_account_88 rfl rfl ?_ | refine x_aload_nN 0 dX11_account_88 rfl rfl ?_
  refine x_get fX11_20 rfl dX11_account_89 (by with_reducible repeat first | assumption | exact hset_s | refine hget_n (by first | assumption | exact Ne.symm (by assumption) | exact nA ok (by omega) (by omega) (by omega)) ?_) (by rfl) ?_
  refine x_get fX11_274 rfl dX11_account_92 (by with_reducible repeat first | assumption | exact hset_s | refine hget_n (by first | assumption | exact Ne.symm (by assumption) | exact nA ok (by omega) (by omega) (by omega)) ?_) (by rfl) ?_
  refine x_iret rfl dX11_account_95 ?_
  show some (Value.int (N 1)) = some (Value.int (N 1)) ∧ h = h
  exact ⟨rfl, rfl⟩
set_option maxRecDepth 100000 in
set_option maxHeartbeats 1000000 in
theorem ct_xaccount_2 {l : Launch} {G : Gl} {h : Hp} {isv flt : Int32} (ok : Ok G) (hst : h (Ad G 0) = some (eSt G isv flt)) {N : Nat → Int32} {ns np no : Nat} (H : ShW G h 1000 N ns np no) : Ct l G mX11_account 10 (0) (0) [.ref (Ad G 0), .int (nI 2)] h (fun w h' => w = some (.int (N 2)) ∧ h' = h) := by
  obtain ⟨hsh, has, hap, hao, ⟨gp, hag⟩, hns, hnp, hno, bs, bp, bo, hS, hP, hO, -⟩ := id H
  refine Ct.of (L := [(0, _), (1, _)]) (by decide) (ble rfl) rfl ?_
  refine x_iload_n 1 dX11_account_0 rfl rfl ?_
  refine x_tableIn 96 dX11_account_1 (by decide) (by decide) (by rfl) (by decide) ?_
  first | refine x_aload_n 0 dX11_account_96 rfl rfl ?_ | refine x_aload_nN 0 dX11_account_96 rfl rfl ?_
  refine x_get fX11_20 rfl dX11_account_97 (by with_reducible repeat first | assumption | exact hset_s | refine hget_n (by first | assumption | exact Ne.symm (by assumption) | exact nA ok (by omega) (by omega) (by omega)) ?_) (by rfl) ?_
  refine x_get fX11_277 rfl dX11_account_100 (by with_reducible repeat first | assumption | exact hset_s | refine hget_n (by first | assumption | exact Ne.symm (by assumption) | exact nA ok (by omega) (by omega) (by omega)) ?_) (by rfl) ?_
  refine x_iret rfl dX11_account_103 ?_
  show some (Value.int (N 2)) = some (Value.int (N 2)) ∧ h = h
  exact ⟨rfl, rfl⟩
set_option maxRecDepth 100000 in
set_option maxHeartbeats 1000000 in
theorem ct_xaccount_3 {l : Launch} {G : Gl} {h : Hp} {isv flt : Int32} (ok : Ok G) (hst : h (Ad G 0) = some (eSt G isv flt)) {N : Nat → Int32} {ns np no : Nat} (H : ShW G h 1000 N ns np no) : Ct l G mX11_account 10 (0) (0) [.ref (Ad G 0), .int (nI 3)] h (fun w h' => w = some (.int (N 3)) ∧ h' = h) := by
  obtain ⟨hsh, has, hap, hao, ⟨gp, hag⟩, hns, hnp, hno, bs, bp, bo, hS, hP, hO, -⟩ := id H
  refine Ct.of (L := [(0, _), (1, _)]) (by decide) (ble rfl) rfl ?_
  refine x_iload_n 1 dX11_account_0 rfl rfl ?_
  refine x_tableIn 104 dX11_account_1 (by decide) (by decide) (by rfl) (by decide) ?_
  first | refine x_aload_n 0 dX11_account_104 rfl rfl ?_ | refine x_aload_nN 0 dX11_account_104 rfl rfl ?_
  refine x_get fX11_20 rfl dX11_account_105 (by with_reducible repeat first | assumption | exact hset_s | refine hget_n (by first | assumption | exact Ne.symm (by assumption) | exact nA ok (by omega) (by omega) (by omega)) ?_) (by rfl) ?_
  refine x_get fX11_68 rfl dX11_account_108 (by with_reducible repeat first | assumption | exact hset_s | refine hget_n (by first | assumption | exact Ne.symm (by assumption) | exact nA ok (by omega) (by omega) (by omega)) ?_) (by rfl) ?_
  refine x_iret rfl dX11_account_111 ?_
  show some (Value.int (N 3)) = some (Value.int (N 3)) ∧ h = h
  exact ⟨rfl, rfl⟩
set_option maxRecDepth 100000 in
set_option maxHeartbeats 1000000 in
theorem ct_xaccount_4 {l : Launch} {G : Gl} {h : Hp} {isv flt : Int32} (ok : Ok G) (hst : h (Ad G 0) = some (eSt G isv flt)) {N : Nat → Int32} {ns np no : Nat} (H : ShW G h 1000 N ns np no) : Ct l G mX11_account 10 (0) (0) [.ref (Ad G 0), .int (nI 4)] h (fun w h' => w = some (.int (N 3 - sm (fun i => soldK (N (191 + 5 * i))) no)) ∧ h' = h) := by
  obtain ⟨hsh, has, hap, hao, ⟨gp, hag⟩, hns, hnp, hno, bs, bp, bo, hS, hP, hO, -⟩ := id H
  refine Ct.of (L := [(0, _), (1, _)]) (by decide) (ble rfl) rfl ?_
  refine x_iload_n 1 dX11_account_0 rfl rfl ?_
  refine x_tableIn 112 dX11_account_1 (by decide) (by decide) (by rfl) (by decide) ?_
  first | refine x_aload_n 0 dX11_account_112 rfl rfl ?_ | refine x_aload_nN 0 dX11_account_112 rfl rfl ?_
  refine x_get fX11_20 rfl dX11_account_113 (by with_reducible repeat first | assumption | exact hset_s | refine hget_n (by first | assumption | exact Ne.symm (by assumption) | exact nA ok (by omega) (by omega) (by omega)) ?_) (by rfl) ?_
  refine x_get fX11_68 rfl dX11_account_116 (by with_reducible repeat first | assumption | exact hset_s | refine hget_n (by first | assumption | exact Ne.symm (by assumption) | exact nA ok (by omega) (by omega) (by omega)) ?_) (by rfl) ?_
  first | refine x_aload_n 0 dX11_account_119 rfl rfl ?_ | refine x_aload_nN 0 dX11_account_119 rfl rfl ?_
  refine x_get fX11_20 rfl dX11_account_120 (by with_reducible repeat first | assumption | exact hset_s | refine hget_n (by first | assumption | exact Ne.symm (by assumption) | exact nA ok (by omega) (by omega) (by omega)) ?_) (by rfl) ?_
  refine x_cV1 (As := []) (ct_X8_soldPots ok (by omega) H) vX11_268 rfl (x_recv (by with_reducible repeat first | assumption | exact hset_s | refine hget_n (by first | assumption | exact Ne.symm (by assumption) | exact nA ok (by omega) (by omega) (by omega)) ?_) rfl) rfl ⟨ble rfl, ble rfl⟩ (ble rfl) dX11_account_123 rfl ?_
  refine x_isub dX11_account_126 ?_
  refine x_iret rfl dX11_account_127 ?_
  show some (Value.int (N 3 - sm (fun i => soldK (N (191 + 5 * i))) no)) = some (Value.int (N 3 - sm (fun i => soldK (N (191 + 5 * i))) no)) ∧ h = h
  exact ⟨rfl, rfl⟩
set_option maxRecDepth 100000 in
set_option maxHeartbeats 1000000 in
theorem ct_xaccount_5 {l : Launch} {G : Gl} {h : Hp} {isv flt : Int32} (ok : Ok G) (hst : h (Ad G 0) = some (eSt G isv flt)) {N : Nat → Int32} {ns np no : Nat} (H : ShW G h 1000 N ns np no) : Ct l G mX11_account 10 (0) (0) [.ref (Ad G 0), .int (nI 5)] h (fun w h' => w = some (.int (sm (fun i => tlP (kOf (N (60 + 8 * i))) (N (67 + 8 * i)) (N (61 + 8 * i)) (N (62 + 8 * i)) (N (63 + 8 * i)) (N (64 + 8 * i)) (N (66 + 8 * i)) 6) np)) ∧ h' = h) := by
  obtain ⟨hsh, has, hap, hao, ⟨gp, hag⟩, hns, hnp, hno, bs, bp, bo, hS, hP, hO, -⟩ := id H
  refine Ct.of (L := [(0, _), (1, _)]) (by decide) (ble rfl) rfl ?_
  refine x_iload_n 1 dX11_account_0 rfl rfl ?_
  refine x_tableIn 128 dX11_account_1 (by decide) (by decide) (by rfl) (by decide) ?_
  first | refine x_aload_n 0 dX11_account_128 rfl rfl ?_ | refine x_aload_nN 0 dX11_account_128 rfl rfl ?_
  refine x_get fX11_20 rfl dX11_account_129 (by with_reducible repeat first | assumption | exact hset_s | refine hget_n (by first | assumption | exact Ne.symm (by assumption) | exact nA ok (by omega) (by omega) (by omega)) ?_) (by rfl) ?_
  refine x_bipush (v := 6) dX11_account_132 rfl ?_
  refine x_cV1 (As := [.int _]) (ct_X8_sumOfPots ok (by omega) H _) vX11_280 rfl (x_recv (by with_reducible repeat first | assumption | exact hset_s | refine hget_n (by first | assumption | exact Ne.symm (by assumption) | exact nA ok (by omega) (by omega) (by omega)) ?_) rfl) rfl ⟨ble rfl, ble rfl⟩ (ble rfl) dX11_account_134 rfl ?_
  refine x_iret rfl dX11_account_137 ?_
  show some (Value.int (sm (fun i => tlP (kOf (N (60 + 8 * i))) (N (67 + 8 * i)) (N (61 + 8 * i)) (N (62 + 8 * i)) (N (63 + 8 * i)) (N (64 + 8 * i)) (N (66 + 8 * i)) 6) np)) = some (Value.int (sm (fun i => tlP (kOf (N (60 + 8 * i))) (N (67 + 8 * i)) (N (61 + 8 * i)) (N (62 + 8 * i)) (N (63 + 8 * i)) (N (64 + 8 * i)) (N (66 + 8 * i)) 6) np)) ∧ h = h
  exact ⟨rfl, rfl⟩
set_option maxRecDepth 100000 in
set_option maxHeartbeats 1000000 in
theorem ct_xaccount_6 {l : Launch} {G : Gl} {h : Hp} {isv flt : Int32} (ok : Ok G) (hst : h (Ad G 0) = some (eSt G isv flt)) {N : Nat → Int32} {ns np no : Nat} (H : ShW G h 1000 N ns np no) : Ct l G mX11_account 10 (0) (0) [.ref (Ad G 0), .int (nI 6)] h (fun w h' => w = some (.int (sm (fun i => tlP (kOf (N (60 + 8 * i))) (N (67 + 8 * i)) (N (61 + 8 * i)) (N (62 + 8 * i)) (N (63 + 8 * i)) (N (64 + 8 * i)) (N (66 + 8 * i)) 7) np)) ∧ h' = h) := by
  obtain ⟨hsh, has, hap, hao, ⟨gp, hag⟩, hns, hnp, hno, bs, bp, bo, hS, hP, hO, -⟩ := id H
  refine Ct.of (L := [(0, _), (1, _)]) (by decide) (ble rfl) rfl ?_
  refine x_iload_n 1 dX11_account_0 rfl rfl ?_
  refine x_tableIn 138 dX11_account_1 (by decide) (by decide) (by rfl) (by decide) ?_
  first | refine x_aload_n 0 dX11_account_138 rfl rfl ?_ | refine x_aload_nN 0 dX11_account_138 rfl rfl ?_
  refine x_get fX11_20 rfl dX11_account_139 (by with_reducible repeat first | assumption | exact hset_s | refine hget_n (by first | assumption | exact Ne.symm (by assumption) | exact nA ok (by omega) (by omega) (by omega)) ?_) (by rfl) ?_
  refine x_bipush (v := 7) dX11_account_142 rfl ?_
  refine x_cV1 (As := [.int _]) (ct_X8_sumOfPots ok (by omega) H _) vX11_280 rfl (x_recv (by with_reducible repeat first | assumption | exact hset_s | refine hget_n (by first | assumption | exact Ne.symm (by assumption) | exact nA ok (by omega) (by omega) (by omega)) ?_) rfl) rfl ⟨ble rfl, ble rfl⟩ (ble rfl) dX11_account_144 rfl ?_
  refine x_iret rfl dX11_account_147 ?_
  show some (Value.int (sm (fun i => tlP (kOf (N (60 + 8 * i))) (N (67 + 8 * i)) (N (61 + 8 * i)) (N (62 + 8 * i)) (N (63 + 8 * i)) (N (64 + 8 * i)) (N (66 + 8 * i)) 7) np)) = some (Value.int (sm (fun i => tlP (kOf (N (60 + 8 * i))) (N (67 + 8 * i)) (N (61 + 8 * i)) (N (62 + 8 * i)) (N (63 + 8 * i)) (N (64 + 8 * i)) (N (66 + 8 * i)) 7) np)) ∧ h = h
  exact ⟨rfl, rfl⟩
set_option maxRecDepth 100000 in
set_option maxHeartbeats 1000000 in
theorem ct_xaccount_7 {l : Launch} {G : Gl} {h : Hp} {isv flt : Int32} (ok : Ok G) (hst : h (Ad G 0) = some (eSt G isv flt)) {N : Nat → Int32} {ns np no : Nat} (H : ShW G h 1000 N ns np no) : Ct l G mX11_account 10 (0) (0) [.ref (Ad G 0), .int (nI 7)] h (fun w h' => w = some (.int (N 4)) ∧ h' = h) := by
  obtain ⟨hsh, has, hap, hao, ⟨gp, hag⟩, hns, hnp, hno, bs, bp, bo, hS, hP, hO, -⟩ := id H
  refine Ct.of (L := [(0, _), (1, _)]) (by decide) (ble rfl) rfl ?_
  refine x_iload_n 1 dX11_account_0 rfl rfl ?_
  refine x_tableIn 148 dX11_account_1 (by decide) (by decide) (by rfl) (by decide) ?_
  first | refine x_aload_n 0 dX11_account_148 rfl rfl ?_ | refine x_aload_nN 0 dX11_account_148 rfl rfl ?_
  refine x_get fX11_20 rfl dX11_account_149 (by with_reducible repeat first | assumption | exact hset_s | refine hget_n (by first | assumption | exact Ne.symm (by assumption) | exact nA ok (by omega) (by omega) (by omega)) ?_) (by rfl) ?_
  refine x_get fX11_283 rfl dX11_account_152 (by with_reducible repeat first | assumption | exact hset_s | refine hget_n (by first | assumption | exact Ne.symm (by assumption) | exact nA ok (by omega) (by omega) (by omega)) ?_) (by rfl) ?_
  refine x_iret rfl dX11_account_155 ?_
  show some (Value.int (N 4)) = some (Value.int (N 4)) ∧ h = h
  exact ⟨rfl, rfl⟩
set_option maxRecDepth 100000 in
set_option maxHeartbeats 1000000 in
theorem ct_xaccount_8 {l : Launch} {G : Gl} {h : Hp} {isv flt : Int32} (ok : Ok G) (hst : h (Ad G 0) = some (eSt G isv flt)) {N : Nat → Int32} {ns np no : Nat} (H : ShW G h 1000 N ns np no) : Ct l G mX11_account 10 (0) (0) [.ref (Ad G 0), .int (nI 8)] h (fun w h' => w = some (.int (sm (fun i => soldK (N (191 + 5 * i))) no)) ∧ h' = h) := by
  obtain ⟨hsh, has, hap, hao, ⟨gp, hag⟩, hns, hnp, hno, bs, bp, bo, hS, hP, hO, -⟩ := id H
  refine Ct.of (L := [(0, _), (1, _)]) (by decide) (ble rfl) rfl ?_
  refine x_iload_n 1 dX11_account_0 rfl rfl ?_
  refine x_tableIn 156 dX11_account_1 (by decide) (by decide) (by rfl) (by decide) ?_
  first | refine x_aload_n 0 dX11_account_156 rfl rfl ?_ | refine x_aload_nN 0 dX11_account_156 rfl rfl ?_
  refine x_get fX11_20 rfl dX11_account_157 (by with_reducible repeat first | assumption | exact hset_s | refine hget_n (by first | assumption | exact Ne.symm (by assumption) | exact nA ok (by omega) (by omega) (by omega)) ?_) (by rfl) ?_
  refine x_cV1 (As := []) (ct_X8_soldPots ok (by omega) H) vX11_268 rfl (x_recv (by with_reducible repeat first | assumption | exact hset_s | refine hget_n (by first | assumption | exact Ne.symm (by assumption) | exact nA ok (by omega) (by omega) (by omega)) ?_) rfl) rfl ⟨ble rfl, ble rfl⟩ (ble rfl) dX11_account_160 rfl ?_
  refine x_iret rfl dX11_account_163 ?_
  show some (Value.int (sm (fun i => soldK (N (191 + 5 * i))) no)) = some (Value.int (sm (fun i => soldK (N (191 + 5 * i))) no)) ∧ h = h
  exact ⟨rfl, rfl⟩
set_option maxRecDepth 100000 in
set_option maxHeartbeats 1000000 in
theorem ct_xaccount_9 {l : Launch} {G : Gl} {h : Hp} {isv flt : Int32} (ok : Ok G) (hst : h (Ad G 0) = some (eSt G isv flt)) {N : Nat → Int32} {ns np no : Nat} (H : ShW G h 1000 N ns np no) : Ct l G mX11_account 10 (0) (0) [.ref (Ad G 0), .int (nI 9)] h (fun w h' => w = some (.int (sm (fun i => tlP (kOf (N (60 + 8 * i))) (N (67 + 8 * i)) (N (61 + 8 * i)) (N (62 + 8 * i)) (N (63 + 8 * i)) (N (64 + 8 * i)) (N (66 + 8 * i)) 3) np)) ∧ h' = h) := by
  obtain ⟨hsh, has, hap, hao, ⟨gp, hag⟩, hns, hnp, hno, bs, bp, bo, hS, hP, hO, -⟩ := id H
  refine Ct.of (L := [(0, _), (1, _)]) (by decide) (ble rfl) rfl ?_
  refine x_iload_n 1 dX11_account_0 rfl rfl ?_
  refine x_tableIn 164 dX11_account_1 (by decide) (by decide) (by rfl) (by decide) ?_
  first | refine x_aload_n 0 dX11_account_164 rfl rfl ?_ | refine x_aload_nN 0 dX11_account_164 rfl rfl ?_
  refine x_get fX11_20 rfl dX11_account_165 (by with_reducible repeat first | assumption | exact hset_s | refine hget_n (by first | assumption | exact Ne.symm (by assumption) | exact nA ok (by omega) (by omega) (by omega)) ?_) (by rfl) ?_
  refine x_iconst (v := 3) dX11_account_168 rfl ?_
  refine x_cV1 (As := [.int _]) (ct_X8_sumOfPots ok (by omega) H _) vX11_280 rfl (x_recv (by with_reducible repeat first | assumption | exact hset_s | refine hget_n (by first | assumption | exact Ne.symm (by assumption) | exact nA ok (by omega) (by omega) (by omega)) ?_) rfl) rfl ⟨ble rfl, ble rfl⟩ (ble rfl) dX11_account_169 rfl ?_
  refine x_iret rfl dX11_account_172 ?_
  show some (Value.int (sm (fun i => tlP (kOf (N (60 + 8 * i))) (N (67 + 8 * i)) (N (61 + 8 * i)) (N (62 + 8 * i)) (N (63 + 8 * i)) (N (64 + 8 * i)) (N (66 + 8 * i)) 3) np)) = some (Value.int (sm (fun i => tlP (kOf (N (60 + 8 * i))) (N (67 + 8 * i)) (N (61 + 8 * i)) (N (62 + 8 * i)) (N (63 + 8 * i)) (N (64 + 8 * i)) (N (66 + 8 * i)) 3) np)) ∧ h = h
  exact ⟨rfl, rfl⟩
set_option maxRecDepth 100000 in
set_option maxHeartbeats 1000000 in
theorem ct_xaccount_10 {l : Launch} {G : Gl} {h : Hp} {isv flt : Int32} (ok : Ok G) (hst : h (Ad G 0) = some (eSt G isv flt)) {N : Nat → Int32} {ns np no : Nat} (H : ShW G h 1000 N ns np no) : Ct l G mX11_account 10 (0) (0) [.ref (Ad G 0), .int (nI 10)] h (fun w h' => w = some (.int (sm (fun i => tlP (kOf (N (60 + 8 * i))) (N (67 + 8 * i)) (N (61 + 8 * i)) (N (62 + 8 * i)) (N (63 + 8 * i)) (N (64 + 8 * i)) (N (66 + 8 * i)) 5) np)) ∧ h' = h) := by
  obtain ⟨hsh, has, hap, hao, ⟨gp, hag⟩, hns, hnp, hno, bs, bp, bo, hS, hP, hO, -⟩ := id H
  refine Ct.of (L := [(0, _), (1, _)]) (by decide) (ble rfl) rfl ?_
  refine x_iload_n 1 dX11_account_0 rfl rfl ?_
  refine x_tableIn 173 dX11_account_1 (by decide) (by decide) (by rfl) (by decide) ?_
  first | refine x_aload_n 0 dX11_account_173 rfl rfl ?_ | refine x_aload_nN 0 dX11_account_173 rfl rfl ?_
  refine x_get fX11_20 rfl dX11_account_174 (by with_reducible repeat first | assumption | exact hset_s | refine hget_n (by first | assumption | exact Ne.symm (by assumption) | exact nA ok (by omega) (by omega) (by omega)) ?_) (by rfl) ?_
  refine x_iconst (v := 5) dX11_account_177 rfl ?_
  refine x_cV1 (As := [.int _]) (ct_X8_sumOfPots ok (by omega) H _) vX11_280 rfl (x_recv (by with_reducible repeat first | assumption | exact hset_s | refine hget_n (by first | assumption | exact Ne.symm (by assumption) | exact nA ok (by omega) (by omega) (by omega)) ?_) rfl) rfl ⟨ble rfl, ble rfl⟩ (ble rfl) dX11_account_178 rfl ?_
  refine x_iret rfl dX11_account_181 ?_
  show some (Value.int (sm (fun i => tlP (kOf (N (60 + 8 * i))) (N (67 + 8 * i)) (N (61 + 8 * i)) (N (62 + 8 * i)) (N (63 + 8 * i)) (N (64 + 8 * i)) (N (66 + 8 * i)) 5) np)) = some (Value.int (sm (fun i => tlP (kOf (N (60 + 8 * i))) (N (67 + 8 * i)) (N (61 + 8 * i)) (N (62 + 8 * i)) (N (63 + 8 * i)) (N (64 + 8 * i)) (N (66 + 8 * i)) 5) np)) ∧ h = h
  exact ⟨rfl, rfl⟩
set_option maxRecDepth 100000 in
set_option maxHeartbeats 1000000 in
theorem ct_xaccount_11 {l : Launch} {G : Gl} {h : Hp} {isv flt : Int32} (ok : Ok G) (hst : h (Ad G 0) = some (eSt G isv flt)) {N : Nat → Int32} {ns np no : Nat} (H : ShW G h 1000 N ns np no) : Ct l G mX11_account 10 (0) (0) [.ref (Ad G 0), .int (nI 11)] h (fun w h' => w = some (.int (N 7)) ∧ h' = h) := by
  obtain ⟨hsh, has, hap, hao, ⟨gp, hag⟩, hns, hnp, hno, bs, bp, bo, hS, hP, hO, -⟩ := id H
  refine Ct.of (L := [(0, _), (1, _)]) (by decide) (ble rfl) rfl ?_
  refine x_iload_n 1 dX11_account_0 rfl rfl ?_
  refine x_tableIn 182 dX11_account_1 (by decide) (by decide) (by rfl) (by decide) ?_
  first | refine x_aload_n 0 dX11_account_182 rfl rfl ?_ | refine x_aload_nN 0 dX11_account_182 rfl rfl ?_
  refine x_get fX11_20 rfl dX11_account_183 (by with_reducible repeat first | assumption | exact hset_s | refine hget_n (by first | assumption | exact Ne.symm (by assumption) | exact nA ok (by omega) (by omega) (by omega)) ?_) (by rfl) ?_
  refine x_get fX11_286 rfl dX11_account_186 (by with_reducible repeat first | assumption | exact hset_s | refine hget_n (by first | assumption | exact Ne.symm (by assumption) | exact nA ok (by omega) (by omega) (by omega)) ?_) (by rfl) ?_
  refine x_iret rfl dX11_account_189 ?_
  show some (Value.int (N 7)) = some (Value.int (N 7)) ∧ h = h
  exact ⟨rfl, rfl⟩
set_option maxRecDepth 100000 in
set_option maxHeartbeats 1000000 in
theorem ct_xaccount_12 {l : Launch} {G : Gl} {h : Hp} {isv flt : Int32} (ok : Ok G) (hst : h (Ad G 0) = some (eSt G isv flt)) {N : Nat → Int32} {ns np no : Nat} (H : ShW G h 1000 N ns np no) : Ct l G mX11_account 10 (0) (0) [.ref (Ad G 0), .int (nI 12)] h (fun w h' => w = some (.int (N 8)) ∧ h' = h) := by
  obtain ⟨hsh, has, hap, hao, ⟨gp, hag⟩, hns, hnp, hno, bs, bp, bo, hS, hP, hO, -⟩ := id H
  refine Ct.of (L := [(0, _), (1, _)]) (by decide) (ble rfl) rfl ?_
  refine x_iload_n 1 dX11_account_0 rfl rfl ?_
  refine x_tableIn 190 dX11_account_1 (by decide) (by decide) (by rfl) (by decide) ?_
  first | refine x_aload_n 0 dX11_account_190 rfl rfl ?_ | refine x_aload_nN 0 dX11_account_190 rfl rfl ?_
  refine x_get fX11_20 rfl dX11_account_191 (by with_reducible repeat first | assumption | exact hset_s | refine hget_n (by first | assumption | exact Ne.symm (by assumption) | exact nA ok (by omega) (by omega) (by omega)) ?_) (by rfl) ?_
  refine x_get fX11_246 rfl dX11_account_194 (by with_reducible repeat first | assumption | exact hset_s | refine hget_n (by first | assumption | exact Ne.symm (by assumption) | exact nA ok (by omega) (by omega) (by omega)) ?_) (by rfl) ?_
  refine x_iret rfl dX11_account_197 ?_
  show some (Value.int (N 8)) = some (Value.int (N 8)) ∧ h = h
  exact ⟨rfl, rfl⟩
set_option maxRecDepth 100000 in
set_option maxHeartbeats 1000000 in
theorem ct_xaccount_13 {l : Launch} {G : Gl} {h : Hp} {isv flt : Int32} (ok : Ok G) (hst : h (Ad G 0) = some (eSt G isv flt)) {N : Nat → Int32} {ns np no : Nat} (H : ShW G h 1000 N ns np no) : Ct l G mX11_account 10 (0) (0) [.ref (Ad G 0), .int (nI 13)] h (fun w h' => w = some (.int (sm (fun i => N (192 + 5 * i)) no)) ∧ h' = h) := by
  obtain ⟨hsh, has, hap, hao, ⟨gp, hag⟩, hns, hnp, hno, bs, bp, bo, hS, hP, hO, -⟩ := id H
  refine Ct.of (L := [(0, _), (1, _)]) (by decide) (ble rfl) rfl ?_
  refine x_iload_n 1 dX11_account_0 rfl rfl ?_
  refine x_tableIn 198 dX11_account_1 (by decide) (by decide) (by rfl) (by decide) ?_
  first | refine x_aload_n 0 dX11_account_198 rfl rfl ?_ | refine x_aload_nN 0 dX11_account_198 rfl rfl ?_
  refine x_get fX11_20 rfl dX11_account_199 (by with_reducible repeat first | assumption | exact hset_s | refine hget_n (by first | assumption | exact Ne.symm (by assumption) | exact nA ok (by omega) (by omega) (by omega)) ?_) (by rfl) ?_
  refine x_cV1 (As := []) (ct_X8_paidSoFar ok (by omega) H) vX11_237 rfl (x_recv (by with_reducible repeat first | assumption | exact hset_s | refine hget_n (by first | assumption | exact Ne.symm (by assumption) | exact nA ok (by omega) (by omega) (by omega)) ?_) rfl) rfl ⟨ble rfl, ble rfl⟩ (ble rfl) dX11_account_202 rfl ?_
  refine x_iret rfl dX11_account_205 ?_
  show some (Value.int (sm (fun i => N (192 + 5 * i)) no)) = some (Value.int (sm (fun i => N (192 + 5 * i)) no)) ∧ h = h
  exact ⟨rfl, rfl⟩
set_option maxRecDepth 100000 in
set_option maxHeartbeats 1000000 in
theorem ct_xaccount_14 {l : Launch} {G : Gl} {h : Hp} {isv flt : Int32} (ok : Ok G) (hst : h (Ad G 0) = some (eSt G isv flt)) {cn att : Int32} (hs : h (Ad G 9) = some (eSc G cn att)) {tx : List Int32} {b : Nat} (T : SBT G h (Ad G 10) tx b) : Ct l G mX11_account 10 (0) (0) [.ref (Ad G 0), .int (nI 14)] h (fun w h' => w = some (.int (nI tx.length)) ∧ h' = h) := by
  obtain ⟨mm, ml, f9, h10, hb10, hab, hB, hl, hmm, hfit, hf, hAd⟩ := id T
  refine Ct.of (L := [(0, _), (1, _)]) (by decide) (ble rfl) rfl ?_
  refine x_iload_n 1 dX11_account_0 rfl rfl ?_
  refine x_tableIn 206 dX11_account_1 (by decide) (by decide) (by rfl) (by decide) ?_
  first | refine x_aload_n 0 dX11_account_206 rfl rfl ?_ | refine x_aload_nN 0 dX11_account_206 rfl rfl ?_
  refine x_get fX11_49 rfl dX11_account_207 (by with_reducible repeat first | assumption | exact hset_s | refine hget_n (by first | assumption | exact Ne.symm (by assumption) | exact nA ok (by omega) (by omega) (by omega)) ?_) (by rfl) ?_
  refine x_cV1 (As := []) (ct_xlength ok hs T) vX11_289 rfl (x_recv (by with_reducible repeat first | assumption | exact hset_s | refine hget_n (by first | assumption | exact Ne.symm (by assumption) | exact nA ok (by omega) (by omega) (by omega)) ?_) rfl) rfl ⟨ble rfl, ble rfl⟩ (ble rfl) dX11_account_210 rfl ?_
  refine x_iret rfl dX11_account_213 ?_
  show some (Value.int (nI tx.length)) = some (Value.int (nI tx.length)) ∧ h = h
  exact ⟨rfl, rfl⟩
set_option maxRecDepth 100000 in
set_option maxHeartbeats 1000000 in
theorem ct_xaccount_15 {l : Launch} {G : Gl} {h : Hp} {isv flt : Int32} (ok : Ok G) (hst : h (Ad G 0) = some (eSt G isv flt)) {nx cnH : Nat} (HH : HiW G h nx cnH) : Ct l G mX11_account 10 (0) (0) [.ref (Ad G 0), .int (nI 15)] h (fun w h' => w = some (.int (nI cnH)) ∧ h' = h) := by
  have h5 := HH.1
  refine Ct.of (L := [(0, _), (1, _)]) (by decide) (ble rfl) rfl ?_
  refine x_iload_n 1 dX11_account_0 rfl rfl ?_
  refine x_tableIn 214 dX11_account_1 (by decide) (by decide) (by rfl) (by decide) ?_
  first | refine x_aload_n 0 dX11_account_214 rfl rfl ?_ | refine x_aload_nN 0 dX11_account_214 rfl rfl ?_
  refine x_get fX11_35 rfl dX11_account_215 (by with_reducible repeat first | assumption | exact hset_s | refine hget_n (by first | assumption | exact Ne.symm (by assumption) | exact nA ok (by omega) (by omega) (by omega)) ?_) (by rfl) ?_
  refine x_cV1 (As := []) (ct_X1_size HH) vX11_290 rfl (x_recv (by with_reducible repeat first | assumption | exact hset_s | refine hget_n (by first | assumption | exact Ne.symm (by assumption) | exact nA ok (by omega) (by omega) (by omega)) ?_) rfl) rfl ⟨ble rfl, ble rfl⟩ (ble rfl) dX11_account_218 rfl ?_
  refine x_iret rfl dX11_account_221 ?_
  show some (Value.int (nI cnH)) = some (Value.int (nI cnH)) ∧ h = h
  exact ⟨rfl, rfl⟩
set_option maxRecDepth 100000 in
set_option maxHeartbeats 1000000 in
theorem ct_xaccount_n {l : Launch} {G : Gl} {h : Hp} {isv flt : Int32} (ok : Ok G) (hst : h (Ad G 0) = some (eSt G isv flt)) (y : Int32) (hy : y.toInt < 0 ∨ (15 : Int) < y.toInt) : Ct l G mX11_account 10 (0) (0) [.ref (Ad G 0), .int y] h (fun w h' => w = some (.int (-2)) ∧ h' = h) := by
  refine Ct.of (L := [(0, _), (1, _)]) (by decide) (ble rfl) rfl ?_
  refine x_iload_n 1 dX11_account_0 rfl rfl ?_
  refine x_tableOut 222 dX11_account_1 hy (by decide) ?_
  refine x_bipush (v := -2) dX11_account_222 rfl ?_
  refine x_iret rfl dX11_account_224 ?_
  exact ⟨rfl, rfl⟩
set_option maxRecDepth 100000 in
set_option maxHeartbeats 1000000 in
theorem ct_add_y {l : Launch} {G : Gl} {h : Hp} (ok : Ok G) {cn att : Int32} (hs : h (Ad G 9) = some (eSc G cn att)) {tx : List Int32} {b : Nat} (T : SBT G h (Ad G 10) tx b) (hAll : ∀ i, nmU i → h (Ad G i) ≠ none) {c : Int32} (hc : ¬ (c < 32 ∨ 126 < c)) (h60 : tx.length < 60) : Ct l G mX6_add 8 (1) (130) [.ref (Ad G 9), .int c] h (fun w h' => w = some (.int (nI (tx.length + 1))) ∧ SBP G h (Ad G 10) b (tx ++ [c]) h') := by
  obtain ⟨mm, ml, f9, h10, hb10, hab, hB, hl, hmm, hfit, hf, hAd⟩ := id T
  have hca : 0 ≤ c ∧ c < 128 := by
    have t1 : Int32.toInt 32 = 32 := rfl
    have t2 : Int32.toInt 126 = 126 := rfl
    have t3 : Int32.toInt 128 = 128 := rfl
    simp only [Int32.lt_iff_toInt_lt, Int32.le_iff_toInt_le, Int32.toInt_zero, not_or] at *; omega
  have hl1 : (tx ++ [c]).length = tx.length + 1 := by rw [List.length_append]; rfl
  refine Ct.of (L := [(0, _), (1, _)]) (by decide) (ble rfl) rfl ?_
  refine x_iload_n 1 dX6_add_0 rfl rfl ?_
  refine x_bipush (v := 32) dX6_add_1 rfl ?_
  refine x_icmp_lt 24 dX6_add_3 (by decide) (fun z => by first | exact absurd z (fun z => hc (Or.inl z)) | exact absurd (fun z => hc (Or.inl z)) z) (fun _ => ?_)
  refine x_iload_n 1 dX6_add_6 rfl rfl ?_
  refine x_bipush (v := 126) dX6_add_7 rfl ?_
  refine x_icmp_gt 24 dX6_add_9 (by decide) (fun z => by first | exact absurd z (fun z => hc (Or.inr z)) | exact absurd (fun z => hc (Or.inr z)) z) (fun _ => ?_)
  first | refine x_aload_n 0 dX6_add_12 rfl rfl ?_ | refine x_aload_nN 0 dX6_add_12 rfl rfl ?_
  refine x_get fX6_12 rfl dX6_add_13 (by with_reducible repeat first | assumption | exact hset_s | refine hget_n (by first | assumption | exact Ne.symm (by assumption) | exact nA ok (by omega) (by omega) (by omega)) ?_) (by rfl) ?_
  refine x_cV1 (As := []) (ct_J4_length_8abf5 (by with_reducible repeat first | assumption | exact hset_s | refine hget_n (by first | assumption | exact Ne.symm (by assumption) | exact nA ok (by omega) (by omega) (by omega)) ?_)) vX6_38 rfl (x_recv (by with_reducible repeat first | assumption | exact hset_s | refine hget_n (by first | assumption | exact Ne.symm (by assumption) | exact nA ok (by omega) (by omega) (by omega)) ?_) rfl) rfl ⟨ble rfl, ble rfl⟩ (ble rfl) dX6_add_16 rfl ?_
  refine x_bipush (v := 60) dX6_add_19 rfl ?_
  refine x_icmp_lt 27 dX6_add_21 (by decide) (fun _ => ?_) (fun z => by first | exact absurd (show nI tx.length < nI 60 from nI_lt h60 (by omega)) z | exact absurd z (show nI tx.length < nI 60 from nI_lt h60 (by omega)))
  first | refine x_aload_n 0 dX6_add_27 rfl rfl ?_ | refine x_aload_nN 0 dX6_add_27 rfl rfl ?_
  refine x_get fX6_12 rfl dX6_add_28 (by with_reducible repeat first | assumption | exact hset_s | refine hget_n (by first | assumption | exact Ne.symm (by assumption) | exact nA ok (by omega) (by omega) (by omega)) ?_) (by rfl) ?_
  refine x_iload_n 1 dX6_add_31 rfl rfl ?_
  refine x_pV1 (mc1 := 0) (ms1 := 0) (As := [.int _]) (ap_c (aA ok (by omega)) hAll T (SBP.rf T) hca (by omega)) vX6_42 rfl (x_recv (by with_reducible repeat first | assumption | exact hset_s | refine hget_n (by first | assumption | exact Ne.symm (by assumption) | exact nA ok (by omega) (by omega) (by omega)) ?_) rfl) rfl ⟨ble rfl, ble rfl⟩ (ble rfl) dX6_add_32 rfl ⟨by omega, by omega⟩ (fun h32 q32 => ?_)
  have Q31 := q32
  have hs1 := SBP.get q32 hs (nA ok (show 9 < 3000 by omega) (show 10 < 3000 by omega) (by omega)) (fun e => hAd 9 (Or.inl (by omega)) e)
  obtain ⟨b9, T9, hb9, F9⟩ := q32
  obtain ⟨ml9, h109⟩ := T9.at0
  refine x_pop dX6_add_35 rfl ?_
  first | refine x_aload_n 0 dX6_add_36 rfl rfl ?_ | refine x_aload_nN 0 dX6_add_36 rfl rfl ?_
  refine x_get fX6_12 rfl dX6_add_37 (by with_reducible repeat first | assumption | exact hset_s | refine hget_n (by first | assumption | exact Ne.symm (by assumption) | exact nA ok (by omega) (by omega) (by omega)) ?_) (by rfl) ?_
  refine x_cV1 (As := []) (ct_J4_length_8abf5 (by with_reducible repeat first | assumption | exact hset_s | refine hget_n (by first | assumption | exact Ne.symm (by assumption) | exact nA ok (by omega) (by omega) (by omega)) ?_)) vX6_38 rfl (x_recv (by with_reducible repeat first | assumption | exact hset_s | refine hget_n (by first | assumption | exact Ne.symm (by assumption) | exact nA ok (by omega) (by omega) (by omega)) ?_) rfl) rfl ⟨ble rfl, ble rfl⟩ (ble rfl) dX6_add_40 rfl ?_
  refine x_iret rfl dX6_add_43 ?_
  rw [hl1]
  exact ⟨rfl, b9, T9, hb9, F9⟩
set_option maxRecDepth 100000 in
set_option maxHeartbeats 1000000 in
theorem ct_add_n {l : Launch} {G : Gl} {h : Hp} (ok : Ok G) {cn att : Int32} (hs : h (Ad G 9) = some (eSc G cn att)) {tx : List Int32} {b : Nat} (T : SBT G h (Ad G 10) tx b) {c : Int32} (hc : (c < 32 ∨ 126 < c) ∨ ¬ tx.length < 60) : Ct l G mX6_add 8 (0) (0) [.ref (Ad G 9), .int c] h (fun w h' => w = some (.int (-2)) ∧ h' = h) := by
  obtain ⟨mm, ml, f9, h10, hb10, hab, hB, hl, hmm, hfit, hf, hAd⟩ := id T
  refine Ct.of (L := [(0, _), (1, _)]) (by decide) (ble rfl) rfl ?_
  refine x_iload_n 1 dX6_add_0 rfl rfl ?_
  refine x_bipush (v := 32) dX6_add_1 rfl ?_
  refine x_icmp_lt 24 dX6_add_3 (by decide) (fun c3 => ?_) (fun c3 => ?_)
  · refine x_bipush (v := -2) dX6_add_24 rfl ?_
    refine x_iret rfl dX6_add_26 ?_
    show some (Value.int (-2)) = some (Value.int (-2)) ∧ h = h
    exact ⟨rfl, rfl⟩
  · refine x_iload_n 1 dX6_add_6 rfl rfl ?_
    refine x_bipush (v := 126) dX6_add_7 rfl ?_
    refine x_icmp_gt 24 dX6_add_9 (by decide) (fun c9 => ?_) (fun c9 => ?_)
    · refine x_bipush (v := -2) dX6_add_24 rfl ?_
      refine x_iret rfl dX6_add_26 ?_
      show some (Value.int (-2)) = some (Value.int (-2)) ∧ h = h
      exact ⟨rfl, rfl⟩
    · first | refine x_aload_n 0 dX6_add_12 rfl rfl ?_ | refine x_aload_nN 0 dX6_add_12 rfl rfl ?_
      refine x_get fX6_12 rfl dX6_add_13 (by with_reducible repeat first | assumption | exact hset_s | refine hget_n (by first | assumption | exact Ne.symm (by assumption) | exact nA ok (by omega) (by omega) (by omega)) ?_) (by rfl) ?_
      refine x_cV1 (As := []) (ct_J4_length_8abf5 (by with_reducible repeat first | assumption | exact hset_s | refine hget_n (by first | assumption | exact Ne.symm (by assumption) | exact nA ok (by omega) (by omega) (by omega)) ?_)) vX6_38 rfl (x_recv (by with_reducible repeat first | assumption | exact hset_s | refine hget_n (by first | assumption | exact Ne.symm (by assumption) | exact nA ok (by omega) (by omega) (by omega)) ?_) rfl) rfl ⟨ble rfl, ble rfl⟩ (ble rfl) dX6_add_16 rfl ?_
      refine x_bipush (v := 60) dX6_add_19 rfl ?_
      refine x_icmp_lt 27 dX6_add_21 (by decide) (fun c21 => ?_) (fun c21 => ?_)
      · exfalso
        exact hc.elim (fun z => z.elim c3 c9) (fun z => nI_nlt (a := tx.length) (b := 60) (Nat.not_lt.mp z) (by omega) c21)
      · refine x_bipush (v := -2) dX6_add_24 rfl ?_
        refine x_iret rfl dX6_add_26 ?_
        show some (Value.int (-2)) = some (Value.int (-2)) ∧ h = h
        exact ⟨rfl, rfl⟩
set_option maxRecDepth 100000 in
set_option maxHeartbeats 1000000 in
theorem ct_xappend_y {l : Launch} {G : Gl} {h : Hp} {isv flt : Int32} (ok : Ok G) (hst : h (Ad G 0) = some (eSt G isv flt)) {cn att : Int32} (hs : h (Ad G 9) = some (eSc G cn att)) {tx : List Int32} {b : Nat} (T : SBT G h (Ad G 10) tx b) (hAll : ∀ i, nmU i → h (Ad G i) ≠ none) {c : Int32} (hc : ¬ (c < 32 ∨ 126 < c)) (h60 : tx.length < 60) : Ct l G mX11_append 10 (1) (130) [.ref (Ad G 0), .int c] h (fun w h' => w = some (.int (nI (tx.length + 1))) ∧ SBP G h (Ad G 10) b (tx ++ [c]) h') := by
  refine Ct.of (L := [(0, _), (1, _)]) (by decide) (ble rfl) rfl ?_
  first | refine x_aload_n 0 dX11_append_0 rfl rfl ?_ | refine x_aload_nN 0 dX11_append_0 rfl rfl ?_
  refine x_get fX11_49 rfl dX11_append_1 (by with_reducible repeat first | assumption | exact hset_s | refine hget_n (by first | assumption | exact Ne.symm (by assumption) | exact nA ok (by omega) (by omega) (by omega)) ?_) (by rfl) ?_
  refine x_iload_n 1 dX11_append_4 rfl rfl ?_
  refine x_pV1 (mc1 := 0) (ms1 := 0) (As := [.int _]) (ct_add_y ok hs T hAll hc h60) vX11_77 rfl (x_recv hs rfl) rfl ⟨ble rfl, ble rfl⟩ (ble rfl) dX11_append_5 rfl ⟨by omega, by omega⟩ (fun h5 q5 => ?_)
  refine x_iret rfl dX11_append_8 ?_
  exact ⟨rfl, q5⟩
set_option maxRecDepth 100000 in
set_option maxHeartbeats 1000000 in
theorem ct_xappend_n {l : Launch} {G : Gl} {h : Hp} {isv flt : Int32} (ok : Ok G) (hst : h (Ad G 0) = some (eSt G isv flt)) {cn att : Int32} (hs : h (Ad G 9) = some (eSc G cn att)) {tx : List Int32} {b : Nat} (T : SBT G h (Ad G 10) tx b) {c : Int32} (hc : (c < 32 ∨ 126 < c) ∨ ¬ tx.length < 60) : Ct l G mX11_append 10 (0) (0) [.ref (Ad G 0), .int c] h (fun w h' => w = some (.int (-2)) ∧ h' = h) := by
  refine Ct.of (L := [(0, _), (1, _)]) (by decide) (ble rfl) rfl ?_
  first | refine x_aload_n 0 dX11_append_0 rfl rfl ?_ | refine x_aload_nN 0 dX11_append_0 rfl rfl ?_
  refine x_get fX11_49 rfl dX11_append_1 (by with_reducible repeat first | assumption | exact hset_s | refine hget_n (by first | assumption | exact Ne.symm (by assumption) | exact nA ok (by omega) (by omega) (by omega)) ?_) (by rfl) ?_
  refine x_iload_n 1 dX11_append_4 rfl rfl ?_
  refine x_pV1 (mc1 := 0) (ms1 := 0) (As := [.int _]) (ct_add_n ok hs T hc) vX11_77 rfl (x_recv hs rfl) rfl ⟨ble rfl, ble rfl⟩ (ble rfl) dX11_append_5 rfl ⟨by omega, by omega⟩ (fun h5 q5 => ?_)
  refine x_iret rfl dX11_append_8 ?_
  exact ⟨rfl, q5⟩
