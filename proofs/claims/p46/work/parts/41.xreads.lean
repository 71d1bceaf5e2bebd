theorem alK_1 {x y : Int32} (h : ¬ alK x y = 0) : alK x y = 1 := by
  unfold alK at *
  generalize (if 0 ≤ x - y then x - y else 0 - (x - y)) = z at *
  by_cases q : z ≤ 2
  · rw [if_pos q]
  · rw [if_neg q] at h; exact absurd rfl h
abbrev eSt (G : Gl) (isv flt : Int32) : va_E := .inr (10, [.ref (Ad G 1), .ref (Ad G 1000), .ref (Ad G 2), .ref (Ad G 1100), .ref (Ad G 5), .ref (Ad G 7), .ref (Ad G 9), .ref (Ad G 14), .int isv, .int flt])
set_option maxRecDepth 100000 in
set_option maxHeartbeats 300000 in
theorem ct_xsheetOf_in {l : Launch} {G : Gl} {h : Hp} {N : Nat → Int32} {ns np no : Nat} {isv flt : Int32} (ok : Ok G) (hst : h (Ad G 0) = some (eSt G isv flt)) (H : ShW G h 1000 N ns np no) {i : Nat} (hi : i < ns) (y : Int32) : CtR l G mX11_sheetOf 6 [.ref (Ad G 0), .int (nI i), .int y] h (some (.int (tlS (N (12 + 4 * i)) (N (15 + 4 * i)) (N (13 + 4 * i)) (N (14 + 4 * i)) y))) (h) := by
  obtain ⟨hsh, has, hap, hao, ⟨gp, hag⟩, hns, hnp, hno, bs, bp, bo, hS, hP, hO, -⟩ := id H
  have hs := hS i hi
  refine Ct.of (L := [(0, _), (1, _), (2, _)]) (by decide) (ble rfl) rfl ?_
  first | refine x_aload_n 0 dX11_sheetOf_0 rfl rfl ?_ | refine x_aload_nN 0 dX11_sheetOf_0 rfl rfl ?_
  refine x_get fX11_20 rfl dX11_sheetOf_1 (by with_reducible repeat first | assumption | exact hset_s | refine hget_n (by first | assumption | exact Ne.symm (by assumption) | exact nA ok (by omega) (by omega) (by omega)) ?_) (by rfl) ?_
  refine x_iload_n 1 dX11_sheetOf_4 rfl rfl ?_
  refine x_cV1 (As := [.int _]) (ct_X8_sheetAt_in ok (by omega) H hi) vX11_135 rfl (x_recv (by with_reducible repeat first | assumption | exact hset_s | refine hget_n (by first | assumption | exact Ne.symm (by assumption) | exact nA ok (by omega) (by omega) (by omega)) ?_) rfl) rfl ⟨ble rfl, ble rfl⟩ (ble rfl) dX11_sheetOf_5 rfl ?_
  first | refine x_astore_n (L' := [(3, _), (0, _), (1, _), (2, _)]) dX11_sheetOf_8 rfl (ble rfl) rfl ?_ | refine x_astore_nN (L' := [(3, _), (0, _), (1, _), (2, _)]) dX11_sheetOf_8 rfl (ble rfl) rfl ?_
  first | refine x_aload_n 0 dX11_sheetOf_9 rfl rfl ?_ | refine x_aload_nN 0 dX11_sheetOf_9 rfl rfl ?_
  refine x_ifnonnull 17 dX11_sheetOf_10 (by decide) ?_
  first | refine x_aload_n 0 dX11_sheetOf_17 rfl rfl ?_ | refine x_aload_nN 0 dX11_sheetOf_17 rfl rfl ?_
  refine x_iload_n 3 dX11_sheetOf_18 rfl rfl ?_
  refine x_cV1 (As := [.int _]) (ct_X7_tell (by with_reducible repeat first | assumption | exact hset_s | refine hget_n (by first | assumption | exact Ne.symm (by assumption) | exact nA ok (by omega) (by omega) (by omega)) ?_) _) vX11_139 rfl (x_recv (by with_reducible repeat first | assumption | exact hset_s | refine hget_n (by first | assumption | exact Ne.symm (by assumption) | exact nA ok (by omega) (by omega) (by omega)) ?_) rfl) rfl ⟨ble rfl, ble rfl⟩ (ble rfl) dX11_sheetOf_19 rfl ?_
  refine x_iret rfl dX11_sheetOf_22 ?_
  show some (Value.int (tlS (N (12 + 4 * i)) (N (15 + 4 * i)) (N (13 + 4 * i)) (N (14 + 4 * i)) y)) = some (Value.int (tlS (N (12 + 4 * i)) (N (15 + 4 * i)) (N (13 + 4 * i)) (N (14 + 4 * i)) y)) ∧ h = h
  exact ⟨rfl, rfl⟩
set_option maxRecDepth 100000 in
set_option maxHeartbeats 300000 in
theorem ct_xsheetOf_out {l : Launch} {G : Gl} {h : Hp} {N : Nat → Int32} {ns np no : Nat} {isv flt : Int32} (ok : Ok G) (hst : h (Ad G 0) = some (eSt G isv flt)) (H : ShW G h 1000 N ns np no) {x : Int32} (hx : ¬ (0 ≤ x ∧ x < N 2)) (y : Int32) : CtR l G mX11_sheetOf 6 [.ref (Ad G 0), .int x, .int y] h (some (.int (-1))) (h) := by
  obtain ⟨hsh, has, hap, hao, ⟨gp, hag⟩, hns, hnp, hno, bs, bp, bo, hS, hP, hO, -⟩ := id H
  refine Ct.of (L := [(0, _), (1, _), (2, _)]) (by decide) (ble rfl) rfl ?_
  refine x_aload_n 0 dX11_sheetOf_0 rfl rfl ?_
  refine x_get fX11_20 rfl dX11_sheetOf_1 (by with_reducible repeat first | assumption | exact hset_s | refine hget_n (by first | assumption | exact Ne.symm (by assumption) | exact nA ok (by omega) (by omega) (by omega)) ?_) (by rfl) ?_
  refine x_iload_n 1 dX11_sheetOf_4 rfl rfl ?_
  refine x_cV1 (As := [.int _]) (ct_X8_sheetAt_out ok (by omega) H hx) vX11_135 rfl (x_recv (by with_reducible repeat first | assumption | exact hset_s | refine hget_n (by first | assumption | exact Ne.symm (by assumption) | exact nA ok (by omega) (by omega) (by omega)) ?_) rfl) rfl ⟨ble rfl, ble rfl⟩ (ble rfl) dX11_sheetOf_5 rfl ?_
  refine x_astore_nN (L' := [(3, _), (0, _), (1, _), (2, _)]) dX11_sheetOf_8 rfl (ble rfl) rfl ?_
  refine x_aload_nN 0 dX11_sheetOf_9 rfl rfl ?_
  refine x_ifnonnullN 17 dX11_sheetOf_10 (by decide) ?_
  refine x_iconst (v := -1) dX11_sheetOf_13 rfl ?_
  refine x_goto 22 dX11_sheetOf_14 (by decide) ?_
  refine x_iret rfl dX11_sheetOf_22 ?_
  show some (Value.int (-1)) = some (Value.int (-1)) ∧ h = h
  exact ⟨rfl, rfl⟩
set_option maxRecDepth 100000 in
set_option maxHeartbeats 300000 in
theorem ct_xpotOf_in {l : Launch} {G : Gl} {h : Hp} {N : Nat → Int32} {ns np no : Nat} {isv flt : Int32} (ok : Ok G) (hst : h (Ad G 0) = some (eSt G isv flt)) (H : ShW G h 1000 N ns np no) {i : Nat} (hi : i < np) (y : Int32) : CtR l G mX11_potOf 6 [.ref (Ad G 0), .int (nI i), .int y] h (some (.int (tlP (kOf (N (60 + 8 * i))) (N (67 + 8 * i)) (N (61 + 8 * i)) (N (62 + 8 * i)) (N (63 + 8 * i)) (N (64 + 8 * i)) (N (66 + 8 * i)) y))) (h) := by
  obtain ⟨hsh, has, hap, hao, ⟨gp, hag⟩, hns, hnp, hno, bs, bp, bo, hS, hP, hO, -⟩ := id H
  obtain ⟨hk, hp⟩ := hP i hi
  refine Ct.of (L := [(0, _), (1, _), (2, _)]) (by decide) (ble rfl) rfl ?_
  first | refine x_aload_n 0 dX11_potOf_0 rfl rfl ?_ | refine x_aload_nN 0 dX11_potOf_0 rfl rfl ?_
  refine x_get fX11_20 rfl dX11_potOf_1 (by with_reducible repeat first | assumption | exact hset_s | refine hget_n (by first | assumption | exact Ne.symm (by assumption) | exact nA ok (by omega) (by omega) (by omega)) ?_) (by rfl) ?_
  refine x_iload_n 1 dX11_potOf_4 rfl rfl ?_
  refine x_cV1 (As := [.int _]) (ct_X8_potAt_in ok (by omega) H hi) vX11_143 rfl (x_recv (by with_reducible repeat first | assumption | exact hset_s | refine hget_n (by first | assumption | exact Ne.symm (by assumption) | exact nA ok (by omega) (by omega) (by omega)) ?_) rfl) rfl ⟨ble rfl, ble rfl⟩ (ble rfl) dX11_potOf_5 rfl ?_
  first | refine x_astore_n (L' := [(3, _), (0, _), (1, _), (2, _)]) dX11_potOf_8 rfl (ble rfl) rfl ?_ | refine x_astore_nN (L' := [(3, _), (0, _), (1, _), (2, _)]) dX11_potOf_8 rfl (ble rfl) rfl ?_
  first | refine x_aload_n 0 dX11_potOf_9 rfl rfl ?_ | refine x_aload_nN 0 dX11_potOf_9 rfl rfl ?_
  refine x_ifnonnull 17 dX11_potOf_10 (by decide) ?_
  first | refine x_aload_n 0 dX11_potOf_17 rfl rfl ?_ | refine x_aload_nN 0 dX11_potOf_17 rfl rfl ?_
  refine x_iload_n 3 dX11_potOf_18 rfl rfl ?_
  refine x_cV1 (As := [.int _]) (ct_X4_tell (by with_reducible repeat first | assumption | exact hset_s | refine hget_n (by first | assumption | exact Ne.symm (by assumption) | exact nA ok (by omega) (by omega) (by omega)) ?_) (by assumption) _) vX11_147 rfl (x_recv (by with_reducible repeat first | assumption | exact hset_s | refine hget_n (by first | assumption | exact Ne.symm (by assumption) | exact nA ok (by omega) (by omega) (by omega)) ?_) rfl) rfl ⟨ble rfl, ble rfl⟩ (ble rfl) dX11_potOf_19 rfl ?_
  refine x_iret rfl dX11_potOf_22 ?_
  show some (Value.int (tlP (kOf (N (60 + 8 * i))) (N (67 + 8 * i)) (N (61 + 8 * i)) (N (62 + 8 * i)) (N (63 + 8 * i)) (N (64 + 8 * i)) (N (66 + 8 * i)) y)) = some (Value.int (tlP (kOf (N (60 + 8 * i))) (N (67 + 8 * i)) (N (61 + 8 * i)) (N (62 + 8 * i)) (N (63 + 8 * i)) (N (64 + 8 * i)) (N (66 + 8 * i)) y)) ∧ h = h
  exact ⟨rfl, rfl⟩
set_option maxRecDepth 100000 in
set_option maxHeartbeats 300000 in
theorem ct_xpotOf_out {l : Launch} {G : Gl} {h : Hp} {N : Nat → Int32} {ns np no : Nat} {isv flt : Int32} (ok : Ok G) (hst : h (Ad G 0) = some (eSt G isv flt)) (H : ShW G h 1000 N ns np no) {x : Int32} (hx : ¬ (0 ≤ x ∧ x < N 3)) (y : Int32) : CtR l G mX11_potOf 6 [.ref (Ad G 0), .int x, .int y] h (some (.int (-1))) (h) := by
  obtain ⟨hsh, has, hap, hao, ⟨gp, hag⟩, hns, hnp, hno, bs, bp, bo, hS, hP, hO, -⟩ := id H
  refine Ct.of (L := [(0, _), (1, _), (2, _)]) (by decide) (ble rfl) rfl ?_
  refine x_aload_n 0 dX11_potOf_0 rfl rfl ?_
  refine x_get fX11_20 rfl dX11_potOf_1 (by with_reducible repeat first | assumption | exact hset_s | refine hget_n (by first | assumption | exact Ne.symm (by assumption) | exact nA ok (by omega) (by omega) (by omega)) ?_) (by rfl) ?_
  refine x_iload_n 1 dX11_potOf_4 rfl rfl ?_
  refine x_cV1 (As := [.int _]) (ct_X8_potAt_out ok (by omega) H hx) vX11_143 rfl (x_recv (by with_reducible repeat first | assumption | exact hset_s | refine hget_n (by first | assumption | exact Ne.symm (by assumption) | exact nA ok (by omega) (by omega) (by omega)) ?_) rfl) rfl ⟨ble rfl, ble rfl⟩ (ble rfl) dX11_potOf_5 rfl ?_
  refine x_astore_nN (L' := [(3, _), (0, _), (1, _), (2, _)]) dX11_potOf_8 rfl (ble rfl) rfl ?_
  refine x_aload_nN 0 dX11_potOf_9 rfl rfl ?_
  refine x_ifnonnullN 17 dX11_potOf_10 (by decide) ?_
  refine x_iconst (v := -1) dX11_potOf_13 rfl ?_
  refine x_goto 22 dX11_potOf_14 (by decide) ?_
  refine x_iret rfl dX11_potOf_22 ?_
  show some (Value.int (-1)) = some (Value.int (-1)) ∧ h = h
  exact ⟨rfl, rfl⟩
set_option maxRecDepth 100000 in
set_option maxHeartbeats 300000 in
theorem ct_xorderOf_in {l : Launch} {G : Gl} {h : Hp} {N : Nat → Int32} {ns np no : Nat} {isv flt : Int32} (ok : Ok G) (hst : h (Ad G 0) = some (eSt G isv flt)) (H : ShW G h 1000 N ns np no) {i : Nat} (hi : i < no) (y : Int32) : CtR l G mX11_orderOf 6 [.ref (Ad G 0), .int (nI i), .int y] h (some (.int (tlO (kOf (N (188 + 5 * i))) (N (189 + 5 * i)) (N (190 + 5 * i)) (N (191 + 5 * i)) (N (192 + 5 * i)) y))) (h) := by
  obtain ⟨hsh, has, hap, hao, ⟨gp, hag⟩, hns, hnp, hno, bs, bp, bo, hS, hP, hO, -⟩ := id H
  obtain ⟨hk2, hq⟩ := hO i hi
  refine Ct.of (L := [(0, _), (1, _), (2, _)]) (by decide) (ble rfl) rfl ?_
  first | refine x_aload_n 0 dX11_orderOf_0 rfl rfl ?_ | refine x_aload_nN 0 dX11_orderOf_0 rfl rfl ?_
  refine x_get fX11_20 rfl dX11_orderOf_1 (by with_reducible repeat first | assumption | exact hset_s | refine hget_n (by first | assumption | exact Ne.symm (by assumption) | exact nA ok (by omega) (by omega) (by omega)) ?_) (by rfl) ?_
  refine x_iload_n 1 dX11_orderOf_4 rfl rfl ?_
  refine x_cV1 (As := [.int _]) (ct_X8_orderAt_in ok (by omega) H hi) vX11_150 rfl (x_recv (by with_reducible repeat first | assumption | exact hset_s | refine hget_n (by first | assumption | exact Ne.symm (by assumption) | exact nA ok (by omega) (by omega) (by omega)) ?_) rfl) rfl ⟨ble rfl, ble rfl⟩ (ble rfl) dX11_orderOf_5 rfl ?_
  first | refine x_astore_n (L' := [(3, _), (0, _), (1, _), (2, _)]) dX11_orderOf_8 rfl (ble rfl) rfl ?_ | refine x_astore_nN (L' := [(3, _), (0, _), (1, _), (2, _)]) dX11_orderOf_8 rfl (ble rfl) rfl ?_
  first | refine x_aload_n 0 dX11_orderOf_9 rfl rfl ?_ | refine x_aload_nN 0 dX11_orderOf_9 rfl rfl ?_
  refine x_ifnonnull 17 dX11_orderOf_10 (by decide) ?_
  first | refine x_aload_n 0 dX11_orderOf_17 rfl rfl ?_ | refine x_aload_nN 0 dX11_orderOf_17 rfl rfl ?_
  refine x_iload_n 3 dX11_orderOf_18 rfl rfl ?_
  refine x_cV1 (As := [.int _]) (ct_X3_tell (by with_reducible repeat first | assumption | exact hset_s | refine hget_n (by first | assumption | exact Ne.symm (by assumption) | exact nA ok (by omega) (by omega) (by omega)) ?_) (by assumption) _) vX11_154 rfl (x_recv (by with_reducible repeat first | assumption | exact hset_s | refine hget_n (by first | assumption | exact Ne.symm (by assumption) | exact nA ok (by omega) (by omega) (by omega)) ?_) rfl) rfl ⟨ble rfl, ble rfl⟩ (ble rfl) dX11_orderOf_19 rfl ?_
  refine x_iret rfl dX11_orderOf_22 ?_
  show some (Value.int (tlO (kOf (N (188 + 5 * i))) (N (189 + 5 * i)) (N (190 + 5 * i)) (N (191 + 5 * i)) (N (192 + 5 * i)) y)) = some (Value.int (tlO (kOf (N (188 + 5 * i))) (N (189 + 5 * i)) (N (190 + 5 * i)) (N (191 + 5 * i)) (N (192 + 5 * i)) y)) ∧ h = h
  exact ⟨rfl, rfl⟩
set_option maxRecDepth 100000 in
set_option maxHeartbeats 300000 in
theorem ct_xorderOf_out {l : Launch} {G : Gl} {h : Hp} {N : Nat → Int32} {ns np no : Nat} {isv flt : Int32} (ok : Ok G) (hst : h (Ad G 0) = some (eSt G isv flt)) (H : ShW G h 1000 N ns np no) {x : Int32} (hx : ¬ (0 ≤ x ∧ x < N 4)) (y : Int32) : CtR l G mX11_orderOf 6 [.ref (Ad G 0), .int x, .int y] h (some (.int (-1))) (h) := by
  obtain ⟨hsh, has, hap, hao, ⟨gp, hag⟩, hns, hnp, hno, bs, bp, bo, hS, hP, hO, -⟩ := id H
  refine Ct.of (L := [(0, _), (1, _), (2, _)]) (by decide) (ble rfl) rfl ?_
  refine x_aload_n 0 dX11_orderOf_0 rfl rfl ?_
  refine x_get fX11_20 rfl dX11_orderOf_1 (by with_reducible repeat first | assumption | exact hset_s | refine hget_n (by first | assumption | exact Ne.symm (by assumption) | exact nA ok (by omega) (by omega) (by omega)) ?_) (by rfl) ?_
  refine x_iload_n 1 dX11_orderOf_4 rfl rfl ?_
  refine x_cV1 (As := [.int _]) (ct_X8_orderAt_out ok (by omega) H hx) vX11_150 rfl (x_recv (by with_reducible repeat first | assumption | exact hset_s | refine hget_n (by first | assumption | exact Ne.symm (by assumption) | exact nA ok (by omega) (by omega) (by omega)) ?_) rfl) rfl ⟨ble rfl, ble rfl⟩ (ble rfl) dX11_orderOf_5 rfl ?_
  refine x_astore_nN (L' := [(3, _), (0, _), (1, _), (2, _)]) dX11_orderOf_8 rfl (ble rfl) rfl ?_
  refine x_aload_nN 0 dX11_orderOf_9 rfl rfl ?_
  refine x_ifnonnullN 17 dX11_orderOf_10 (by decide) ?_
  refine x_iconst (v := -1) dX11_orderOf_13 rfl ?_
  refine x_goto 22 dX11_orderOf_14 (by decide) ?_
  refine x_iret rfl dX11_orderOf_22 ?_
  show some (Value.int (-1)) = some (Value.int (-1)) ∧ h = h
  exact ⟨rfl, rfl⟩
set_option maxRecDepth 100000 in
set_option maxHeartbeats 300000 in
theorem ct_xsound_in {l : Launch} {G : Gl} {h : Hp} {N : Nat → Int32} {ns np no : Nat} {isv flt : Int32} (ok : Ok G) (hst : h (Ad G 0) = some (eSt G isv flt)) (H : ShW G h 1000 N ns np no) {i : Nat} (hi : i < np)  : CtR l G mX11_sound 6 [.ref (Ad G 0), .int (nI i)] h (some (.int (ringK (kOf (N (60 + 8 * i))) (N (61 + 8 * i)) (N (62 + 8 * i)) (N (63 + 8 * i))))) (h) := by
  obtain ⟨hsh, has, hap, hao, ⟨gp, hag⟩, hns, hnp, hno, bs, bp, bo, hS, hP, hO, -⟩ := id H
  obtain ⟨hk, hp⟩ := hP i hi
  refine Ct.of (L := [(0, _), (1, _)]) (by decide) (ble rfl) rfl ?_
  first | refine x_aload_n 0 dX11_sound_0 rfl rfl ?_ | refine x_aload_nN 0 dX11_sound_0 rfl rfl ?_
  refine x_get fX11_20 rfl dX11_sound_1 (by with_reducible repeat first | assumption | exact hset_s | refine hget_n (by first | assumption | exact Ne.symm (by assumption) | exact nA ok (by omega) (by omega) (by omega)) ?_) (by rfl) ?_
  refine x_iload_n 1 dX11_sound_4 rfl rfl ?_
  refine x_cV1 (As := [.int _]) (ct_X8_potAt_in ok (by omega) H hi) vX11_143 rfl (x_recv (by with_reducible repeat first | assumption | exact hset_s | refine hget_n (by first | assumption | exact Ne.symm (by assumption) | exact nA ok (by omega) (by omega) (by omega)) ?_) rfl) rfl ⟨ble rfl, ble rfl⟩ (ble rfl) dX11_sound_5 rfl ?_
  first | refine x_astore_n (L' := [(2, _), (0, _), (1, _)]) dX11_sound_8 rfl (ble rfl) rfl ?_ | refine x_astore_nN (L' := [(2, _), (0, _), (1, _)]) dX11_sound_8 rfl (ble rfl) rfl ?_
  first | refine x_aload_n 0 dX11_sound_9 rfl rfl ?_ | refine x_aload_nN 0 dX11_sound_9 rfl rfl ?_
  refine x_ifnonnull 17 dX11_sound_10 (by decide) ?_
  first | refine x_aload_n 0 dX11_sound_17 rfl rfl ?_ | refine x_aload_nN 0 dX11_sound_17 rfl rfl ?_
  refine x_cV1 (As := []) (ct_X4_ring (by with_reducible repeat first | assumption | exact hset_s | refine hget_n (by first | assumption | exact Ne.symm (by assumption) | exact nA ok (by omega) (by omega) (by omega)) ?_) (by assumption)) vX11_157 rfl (x_recv (by with_reducible repeat first | assumption | exact hset_s | refine hget_n (by first | assumption | exact Ne.symm (by assumption) | exact nA ok (by omega) (by omega) (by omega)) ?_) rfl) rfl ⟨ble rfl, ble rfl⟩ (ble rfl) dX11_sound_18 rfl ?_
  refine x_iret rfl dX11_sound_21 ?_
  show some (Value.int (ringK (kOf (N (60 + 8 * i))) (N (61 + 8 * i)) (N (62 + 8 * i)) (N (63 + 8 * i)))) = some (Value.int (ringK (kOf (N (60 + 8 * i))) (N (61 + 8 * i)) (N (62 + 8 * i)) (N (63 + 8 * i)))) ∧ h = h
  exact ⟨rfl, rfl⟩
set_option maxRecDepth 100000 in
set_option maxHeartbeats 300000 in
theorem ct_xsound_out {l : Launch} {G : Gl} {h : Hp} {N : Nat → Int32} {ns np no : Nat} {isv flt : Int32} (ok : Ok G) (hst : h (Ad G 0) = some (eSt G isv flt)) (H : ShW G h 1000 N ns np no) {x : Int32} (hx : ¬ (0 ≤ x ∧ x < N 3))  : CtR l G mX11_sound 6 [.ref (Ad G 0), .int x] h (some (.int (-1))) (h) := by
  obtain ⟨hsh, has, hap, hao, ⟨gp, hag⟩, hns, hnp, hno, bs, bp, bo, hS, hP, hO, -⟩ := id H
  refine Ct.of (L := [(0, _), (1, _)]) (by decide) (ble rfl) rfl ?_
  refine x_aload_n 0 dX11_sound_0 rfl rfl ?_
  refine x_get fX11_20 rfl dX11_sound_1 (by with_reducible repeat first | assumption | exact hset_s | refine hget_n (by first | assumption | exact Ne.symm (by assumption) | exact nA ok (by omega) (by omega) (by omega)) ?_) (by rfl) ?_
  refine x_iload_n 1 dX11_sound_4 rfl rfl ?_
  refine x_cV1 (As := [.int _]) (ct_X8_potAt_out ok (by omega) H hx) vX11_143 rfl (x_recv (by with_reducible repeat first | assumption | exact hset_s | refine hget_n (by first | assumption | exact Ne.symm (by assumption) | exact nA ok (by omega) (by omega) (by omega)) ?_) rfl) rfl ⟨ble rfl, ble rfl⟩ (ble rfl) dX11_sound_5 rfl ?_
  refine x_astore_nN (L' := [(2, _), (0, _), (1, _)]) dX11_sound_8 rfl (ble rfl) rfl ?_
  refine x_aload_nN 0 dX11_sound_9 rfl rfl ?_
  refine x_ifnonnullN 17 dX11_sound_10 (by decide) ?_
  refine x_iconst (v := -1) dX11_sound_13 rfl ?_
  refine x_goto 21 dX11_sound_14 (by decide) ?_
  refine x_iret rfl dX11_sound_21 ?_
  show some (Value.int (-1)) = some (Value.int (-1)) ∧ h = h
  exact ⟨rfl, rfl⟩
set_option maxRecDepth 100000 in
set_option maxHeartbeats 300000 in
theorem ct_xsoundAgain_in {l : Launch} {G : Gl} {h : Hp} {N : Nat → Int32} {ns np no : Nat} {isv flt : Int32} (ok : Ok G) (hst : h (Ad G 0) = some (eSt G isv flt)) (H : ShW G h 1000 N ns np no) {i t n9 : Nat} (hi : i < np) (ht : N (63 + 8 * i) = nI t) (ht9 : t ≤ 9) (hn9 : n9 ≤ 9) (hth9 : thickK (kOf (N (60 + 8 * i))) (N (61 + 8 * i)) (N (62 + 8 * i)) = nI n9) : CtR l G mX11_soundAgain 6 [.ref (Ad G 0), .int (nI i)] h (some (.int (ringK (kOf (N (60 + 8 * i))) (N (61 + 8 * i)) (N (62 + 8 * i)) (N (63 + 8 * i))))) (h) := by
  obtain ⟨hsh, has, hap, hao, ⟨gp, hag⟩, hns, hnp, hno, bs, bp, bo, hS, hP, hO, -⟩ := id H
  obtain ⟨hk, hp⟩ := hP i hi
  have hp9 := hp
  unfold pC at hp9
  rw [ht] at hp9 ⊢
  refine Ct.of (L := [(0, _), (1, _)]) (by decide) (ble rfl) rfl ?_
  first | refine x_aload_n 0 dX11_soundAgain_0 rfl rfl ?_ | refine x_aload_nN 0 dX11_soundAgain_0 rfl rfl ?_
  refine x_get fX11_20 rfl dX11_soundAgain_1 (by with_reducible repeat first | assumption | exact hset_s | refine hget_n (by first | assumption | exact Ne.symm (by assumption) | exact nA ok (by omega) (by omega) (by omega)) ?_) (by rfl) ?_
  refine x_iload_n 1 dX11_soundAgain_4 rfl rfl ?_
  refine x_cV1 (As := [.int _]) (ct_X8_potAt_in ok (by omega) H hi) vX11_143 rfl (x_recv (by with_reducible repeat first | assumption | exact hset_s | refine hget_n (by first | assumption | exact Ne.symm (by assumption) | exact nA ok (by omega) (by omega) (by omega)) ?_) rfl) rfl ⟨ble rfl, ble rfl⟩ (ble rfl) dX11_soundAgain_5 rfl ?_
  first | refine x_astore_n (L' := [(2, _), (0, _), (1, _)]) dX11_soundAgain_8 rfl (ble rfl) rfl ?_ | refine x_astore_nN (L' := [(2, _), (0, _), (1, _)]) dX11_soundAgain_8 rfl (ble rfl) rfl ?_
  first | refine x_aload_n 0 dX11_soundAgain_9 rfl rfl ?_ | refine x_aload_nN 0 dX11_soundAgain_9 rfl rfl ?_
  refine x_ifnonnull 17 dX11_soundAgain_10 (by decide) ?_
  first | refine x_aload_n 0 dX11_soundAgain_17 rfl rfl ?_ | refine x_aload_nN 0 dX11_soundAgain_17 rfl rfl ?_
  refine x_cV1 (As := []) (ct_X4_ringByStep hp9 hk ht9 hn9 hth9) vX11_160 rfl (x_recv (by with_reducible repeat first | assumption | exact hset_s | refine hget_n (by first | assumption | exact Ne.symm (by assumption) | exact nA ok (by omega) (by omega) (by omega)) ?_) rfl) rfl ⟨ble rfl, ble rfl⟩ (ble rfl) dX11_soundAgain_18 rfl ?_
  refine x_iret rfl dX11_soundAgain_21 ?_
  exact ⟨rfl, rfl⟩
set_option maxRecDepth 100000 in
set_option maxHeartbeats 300000 in
theorem ct_xsoundAgain_out {l : Launch} {G : Gl} {h : Hp} {N : Nat → Int32} {ns np no : Nat} {isv flt : Int32} (ok : Ok G) (hst : h (Ad G 0) = some (eSt G isv flt)) (H : ShW G h 1000 N ns np no) {x : Int32} (hx : ¬ (0 ≤ x ∧ x < N 3)) : CtR l G mX11_soundAgain 6 [.ref (Ad G 0), .int x] h (some (.int (-1))) (h) := by
  obtain ⟨hsh, has, hap, hao, ⟨gp, hag⟩, hns, hnp, hno, bs, bp, bo, hS, hP, hO, -⟩ := id H
  refine Ct.of (L := [(0, _), (1, _)]) (by decide) (ble rfl) rfl ?_
  refine x_aload_n 0 dX11_soundAgain_0 rfl rfl ?_
  refine x_get fX11_20 rfl dX11_soundAgain_1 (by with_reducible repeat first | assumption | exact hset_s | refine hget_n (by first | assumption | exact Ne.symm (by assumption) | exact nA ok (by omega) (by omega) (by omega)) ?_) (by rfl) ?_
  refine x_iload_n 1 dX11_soundAgain_4 rfl rfl ?_
  refine x_cV1 (As := [.int _]) (ct_X8_potAt_out ok (by omega) H hx) vX11_143 rfl (x_recv (by with_reducible repeat first | assumption | exact hset_s | refine hget_n (by first | assumption | exact Ne.symm (by assumption) | exact nA ok (by omega) (by omega) (by omega)) ?_) rfl) rfl ⟨ble rfl, ble rfl⟩ (ble rfl) dX11_soundAgain_5 rfl ?_
  refine x_astore_nN (L' := [(2, _), (0, _), (1, _)]) dX11_soundAgain_8 rfl (ble rfl) rfl ?_
  refine x_aload_nN 0 dX11_soundAgain_9 rfl rfl ?_
  refine x_ifnonnullN 17 dX11_soundAgain_10 (by decide) ?_
  refine x_iconst (v := -1) dX11_soundAgain_13 rfl ?_
  refine x_goto 21 dX11_soundAgain_14 (by decide) ?_
  refine x_iret rfl dX11_soundAgain_21 ?_
  show some (Value.int (-1)) = some (Value.int (-1)) ∧ h = h
  exact ⟨rfl, rfl⟩
set_option maxRecDepth 100000 in
set_option maxHeartbeats 300000 in
theorem ct_xblowsTo_in {l : Launch} {G : Gl} {h : Hp} {N : Nat → Int32} {ns np no : Nat} {isv flt : Int32} (ok : Ok G) (hst : h (Ad G 0) = some (eSt G isv flt)) (H : ShW G h 1000 N ns np no) {i : Nat} (hi : i < np) (y : Int32) : CtR l G mX11_blowsTo 6 [.ref (Ad G 0), .int (nI i), .int y] h (some (.int (if y = 0 then mx (kSm (kOf (N (60 + 8 * i))) - (N (62 + 8 * i))) 0 else if y = 1 then mx (crackK (kOf (N (60 + 8 * i))) (N (61 + 8 * i)) - (N (62 + 8 * i))) 0 else -2))) (h) := by
  obtain ⟨hsh, has, hap, hao, ⟨gp, hag⟩, hns, hnp, hno, bs, bp, bo, hS, hP, hO, -⟩ := id H
  obtain ⟨hk, hp⟩ := hP i hi
  refine Ct.of (L := [(0, _), (1, _), (2, _)]) (by decide) (ble rfl) rfl ?_
  first | refine x_aload_n 0 dX11_blowsTo_0 rfl rfl ?_ | refine x_aload_nN 0 dX11_blowsTo_0 rfl rfl ?_
  refine x_get fX11_20 rfl dX11_blowsTo_1 (by with_reducible repeat first | assumption | exact hset_s | refine hget_n (by first | assumption | exact Ne.symm (by assumption) | exact nA ok (by omega) (by omega) (by omega)) ?_) (by rfl) ?_
  refine x_iload_n 1 dX11_blowsTo_4 rfl rfl ?_
  refine x_cV1 (As := [.int _]) (ct_X8_potAt_in ok (by omega) H hi) vX11_143 rfl (x_recv (by with_reducible repeat first | assumption | exact hset_s | refine hget_n (by first | assumption | exact Ne.symm (by assumption) | exact nA ok (by omega) (by omega) (by omega)) ?_) rfl) rfl ⟨ble rfl, ble rfl⟩ (ble rfl) dX11_blowsTo_5 rfl ?_
  first | refine x_astore_n (L' := [(3, _), (0, _), (1, _), (2, _)]) dX11_blowsTo_8 rfl (ble rfl) rfl ?_ | refine x_astore_nN (L' := [(3, _), (0, _), (1, _), (2, _)]) dX11_blowsTo_8 rfl (ble rfl) rfl ?_
  first | refine x_aload_n 0 dX11_blowsTo_9 rfl rfl ?_ | refine x_aload_nN 0 dX11_blowsTo_9 rfl rfl ?_
  refine x_ifnonnull 15 dX11_blowsTo_10 (by decide) ?_
  refine x_iload_n 3 dX11_blowsTo_15 rfl rfl ?_
  refine x_if_ne 31 dX11_blowsTo_16 (by decide) (fun c16 => ?_) (fun c16 => ?_)
  · refine x_iload_n 3 dX11_blowsTo_31 rfl rfl ?_
    refine x_iconst (v := 1) dX11_blowsTo_32 rfl ?_
    refine x_icmp_ne 47 dX11_blowsTo_33 (by decide) (fun c33 => ?_) (fun c33 => ?_)
    · refine x_bipush (v := -2) dX11_blowsTo_47 rfl ?_
      refine x_iret rfl dX11_blowsTo_49 ?_
      refine ⟨congrArg (fun z => some (Value.int z)) ?_, rfl⟩
      clear hS hP hO hst H ok hsh has hap hao hag hp
      (repeat' split) <;> first | exact Eq.refl _ | contradiction | (exfalso; (simp only [Int32.lt_iff_toInt_lt, Int32.le_iff_toInt_le, ← Int32.toInt_inj, Int32.toInt_zero, t_1, t_2, t_3, t_4, t_5, t_6, t_7, t_8, t_9, t_10, t_11, t_12, t_13, t_14, t_16, t_20, t_30, t_32, t_48, t_50, t_57, t_60, t_90, t_99, t_120, t_126, t_m1, t_m2, t_m3, t_m4] at *; omega))
    · first | refine x_aload_n 0 dX11_blowsTo_36 rfl rfl ?_ | refine x_aload_nN 0 dX11_blowsTo_36 rfl rfl ?_
      first | refine x_aload_n 0 dX11_blowsTo_37 rfl rfl ?_ | refine x_aload_nN 0 dX11_blowsTo_37 rfl rfl ?_
      refine x_cV1 (As := []) (ct_X4_crackingBlows (by with_reducible repeat first | assumption | exact hset_s | refine hget_n (by first | assumption | exact Ne.symm (by assumption) | exact nA ok (by omega) (by omega) (by omega)) ?_) (by assumption)) vX11_208 rfl (x_recv (by with_reducible repeat first | assumption | exact hset_s | refine hget_n (by first | assumption | exact Ne.symm (by assumption) | exact nA ok (by omega) (by omega) (by omega)) ?_) rfl) rfl ⟨ble rfl, ble rfl⟩ (ble rfl) dX11_blowsTo_38 rfl ?_
      refine x_cV1 (As := [.int _]) (ct_X4_blowsMissing (by with_reducible repeat first | assumption | exact hset_s | refine hget_n (by first | assumption | exact Ne.symm (by assumption) | exact nA ok (by omega) (by omega) (by omega)) ?_) _) vX11_205 rfl (x_recv (by with_reducible repeat first | assumption | exact hset_s | refine hget_n (by first | assumption | exact Ne.symm (by assumption) | exact nA ok (by omega) (by omega) (by omega)) ?_) rfl) rfl ⟨ble rfl, ble rfl⟩ (ble rfl) dX11_blowsTo_41 rfl ?_
      refine x_goto 49 dX11_blowsTo_44 (by decide) ?_
      refine x_iret rfl dX11_blowsTo_49 ?_
      refine ⟨congrArg (fun z => some (Value.int z)) ?_, rfl⟩
      clear hS hP hO hst H ok hsh has hap hao hag hp
      (repeat' split) <;> first | exact Eq.refl _ | contradiction | (exfalso; (simp only [Int32.lt_iff_toInt_lt, Int32.le_iff_toInt_le, ← Int32.toInt_inj, Int32.toInt_zero, t_1, t_2, t_3, t_4, t_5, t_6, t_7, t_8, t_9, t_10, t_11, t_12, t_13, t_14, t_16, t_20, t_30, t_32, t_48, t_50, t_57, t_60, t_90, t_99, t_120, t_126, t_m1, t_m2, t_m3, t_m4] at *; omega))
  · first | refine x_aload_n 0 dX11_blowsTo_19 rfl rfl ?_ | refine x_aload_nN 0 dX11_blowsTo_19 rfl rfl ?_
    first | refine x_aload_n 0 dX11_blowsTo_20 rfl rfl ?_ | refine x_aload_nN 0 dX11_blowsTo_20 rfl rfl ?_
    refine x_get fX11_196 rfl dX11_blowsTo_21 (by with_reducible repeat first | assumption | exact hset_s | refine hget_n (by first | assumption | exact Ne.symm (by assumption) | exact nA ok (by omega) (by omega) (by omega)) ?_) (by rfl) ?_
    refine x_getO (zK_smoothBlows (by assumption)) rfl oX11_200 dX11_blowsTo_24 ?_
    refine x_cV1 (As := [.int _]) (ct_X4_blowsMissing (by with_reducible repeat first | assumption | exact hset_s | refine hget_n (by first | assumption | exact Ne.symm (by assumption) | exact nA ok (by omega) (by omega) (by omega)) ?_) _) vX11_205 rfl (x_recv (by with_reducible repeat first | assumption | exact hset_s | refine hget_n (by first | assumption | exact Ne.symm (by assumption) | exact nA ok (by omega) (by omega) (by omega)) ?_) rfl) rfl ⟨ble rfl, ble rfl⟩ (ble rfl) dX11_blowsTo_27 rfl ?_
    refine x_iret rfl dX11_blowsTo_30 ?_
    refine ⟨congrArg (fun z => some (Value.int z)) ?_, rfl⟩
    clear hS hP hO hst H ok hsh has hap hao hag hp
    (repeat' split) <;> first | exact Eq.refl _ | contradiction | (exfalso; (simp only [Int32.lt_iff_toInt_lt, Int32.le_iff_toInt_le, ← Int32.toInt_inj, Int32.toInt_zero, t_1, t_2, t_3, t_4, t_5, t_6, t_7, t_8, t_9, t_10, t_11, t_12, t_13, t_14, t_16, t_20, t_30, t_32, t_48, t_50, t_57, t_60, t_90, t_99, t_120, t_126, t_m1, t_m2, t_m3, t_m4] at *; omega))
set_option maxRecDepth 100000 in
set_option maxHeartbeats 300000 in
theorem ct_xblowsTo_out {l : Launch} {G : Gl} {h : Hp} {N : Nat → Int32} {ns np no : Nat} {isv flt : Int32} (ok : Ok G) (hst : h (Ad G 0) = some (eSt G isv flt)) (H : ShW G h 1000 N ns np no) {x : Int32} (hx : ¬ (0 ≤ x ∧ x < N 3)) (y : Int32) : CtR l G mX11_blowsTo 6 [.ref (Ad G 0), .int x, .int y] h (some (.int (-1))) (h) := by
  obtain ⟨hsh, has, hap, hao, ⟨gp, hag⟩, hns, hnp, hno, bs, bp, bo, hS, hP, hO, -⟩ := id H
  refine Ct.of (L := [(0, _), (1, _), (2, _)]) (by decide) (ble rfl) rfl ?_
  refine x_aload_n 0 dX11_blowsTo_0 rfl rfl ?_
  refine x_get fX11_20 rfl dX11_blowsTo_1 (by with_reducible repeat first | assumption | exact hset_s | refine hget_n (by first | assumption | exact Ne.symm (by assumption) | exact nA ok (by omega) (by omega) (by omega)) ?_) (by rfl) ?_
  refine x_iload_n 1 dX11_blowsTo_4 rfl rfl ?_
  refine x_cV1 (As := [.int _]) (ct_X8_potAt_out ok (by omega) H hx) vX11_143 rfl (x_recv (by with_reducible repeat first | assumption | exact hset_s | refine hget_n (by first | assumption | exact Ne.symm (by assumption) | exact nA ok (by omega) (by omega) (by omega)) ?_) rfl) rfl ⟨ble rfl, ble rfl⟩ (ble rfl) dX11_blowsTo_5 rfl ?_
  refine x_astore_nN (L' := [(3, _), (0, _), (1, _), (2, _)]) dX11_blowsTo_8 rfl (ble rfl) rfl ?_
  refine x_aload_nN 0 dX11_blowsTo_9 rfl rfl ?_
  refine x_ifnonnullN 15 dX11_blowsTo_10 (by decide) ?_
  refine x_iconst (v := -1) dX11_blowsTo_13 rfl ?_
  refine x_iret rfl dX11_blowsTo_14 ?_
  show some (Value.int (-1)) = some (Value.int (-1)) ∧ h = h
  exact ⟨rfl, rfl⟩
set_option maxRecDepth 100000 in
set_option maxHeartbeats 300000 in
theorem ct_xwouldSound_in {l : Launch} {G : Gl} {h : Hp} {N : Nat → Int32} {ns np no : Nat} {isv flt : Int32} (ok : Ok G) (hst : h (Ad G 0) = some (eSt G isv flt)) (H : ShW G h 1000 N ns np no) {i : Nat} (hi : i < np) (y z : Int32) : CtR l G mX11_wouldSound 6 [.ref (Ad G 0), .int (nI i), .int y, .int z] h (some (.int (if y < 0 ∨ 99 < y ∨ z < 0 ∨ 9 < z then -2 else ringK (kOf (N (60 + 8 * i))) (N (61 + 8 * i)) ((N (62 + 8 * i)) + y) (mn ((N (63 + 8 * i)) + z) 9)))) (h) := by
  obtain ⟨hsh, has, hap, hao, ⟨gp, hag⟩, hns, hnp, hno, bs, bp, bo, hS, hP, hO, -⟩ := id H
  obtain ⟨hk, hp⟩ := hP i hi
  refine Ct.of (L := [(0, _), (1, _), (2, _), (3, _)]) (by decide) (ble rfl) rfl ?_
  first | refine x_aload_n 0 dX11_wouldSound_0 rfl rfl ?_ | refine x_aload_nN 0 dX11_wouldSound_0 rfl rfl ?_
  refine x_get fX11_20 rfl dX11_wouldSound_1 (by with_reducible repeat first | assumption | exact hset_s | refine hget_n (by first | assumption | exact Ne.symm (by assumption) | exact nA ok (by omega) (by omega) (by omega)) ?_) (by rfl) ?_
  refine x_iload_n 1 dX11_wouldSound_4 rfl rfl ?_
  refine x_cV1 (As := [.int _]) (ct_X8_potAt_in ok (by omega) H hi) vX11_143 rfl (x_recv (by with_reducible repeat first | assumption | exact hset_s | refine hget_n (by first | assumption | exact Ne.symm (by assumption) | exact nA ok (by omega) (by omega) (by omega)) ?_) rfl) rfl ⟨ble rfl, ble rfl⟩ (ble rfl) dX11_wouldSound_5 rfl ?_
  first | refine x_astore (L' := [(4, _), (0, _), (1, _), (2, _), (3, _)]) dX11_wouldSound_8 (ble rfl) rfl ?_ | refine x_astoreN (L' := [(4, _), (0, _), (1, _), (2, _), (3, _)]) dX11_wouldSound_8 (ble rfl) rfl ?_
  first | refine x_aload 0 dX11_wouldSound_10 rfl ?_ | refine x_aloadN 0 dX11_wouldSound_10 rfl ?_
  refine x_ifnonnull 17 dX11_wouldSound_12 (by decide) ?_
  refine x_iload_n 3 dX11_wouldSound_17 rfl rfl ?_
  refine x_if_lt 37 dX11_wouldSound_18 (by decide) (fun c18 => ?_) (fun c18 => ?_)
  · refine x_bipush (v := -2) dX11_wouldSound_37 rfl ?_
    refine x_iret rfl dX11_wouldSound_39 ?_
    refine ⟨congrArg (fun z => some (Value.int z)) ?_, rfl⟩
    clear hS hP hO hst H ok hsh has hap hao hag hp
    unfold mn
    (repeat' split) <;> first | exact Eq.refl _ | contradiction | (exfalso; (simp only [Int32.lt_iff_toInt_lt, Int32.le_iff_toInt_le, ← Int32.toInt_inj, Int32.toInt_zero, t_1, t_2, t_3, t_4, t_5, t_6, t_7, t_8, t_9, t_10, t_11, t_12, t_13, t_14, t_16, t_20, t_30, t_32, t_48, t_50, t_57, t_60, t_90, t_99, t_120, t_126, t_m1, t_m2, t_m3, t_m4] at *; omega))
  · refine x_iload_n 3 dX11_wouldSound_21 rfl rfl ?_
    refine x_bipush (v := 99) dX11_wouldSound_22 rfl ?_
    refine x_icmp_gt 37 dX11_wouldSound_24 (by decide) (fun c24 => ?_) (fun c24 => ?_)
    · refine x_bipush (v := -2) dX11_wouldSound_37 rfl ?_
      refine x_iret rfl dX11_wouldSound_39 ?_
      refine ⟨congrArg (fun z => some (Value.int z)) ?_, rfl⟩
      clear hS hP hO hst H ok hsh has hap hao hag hp
      unfold mn
      (repeat' split) <;> first | exact Eq.refl _ | contradiction | (exfalso; (simp only [Int32.lt_iff_toInt_lt, Int32.le_iff_toInt_le, ← Int32.toInt_inj, Int32.toInt_zero, t_1, t_2, t_3, t_4, t_5, t_6, t_7, t_8, t_9, t_10, t_11, t_12, t_13, t_14, t_16, t_20, t_30, t_32, t_48, t_50, t_57, t_60, t_90, t_99, t_120, t_126, t_m1, t_m2, t_m3, t_m4] at *; omega))
    · refine x_iload_n 4 dX11_wouldSound_27 rfl rfl ?_
      refine x_if_lt 37 dX11_wouldSound_28 (by decide) (fun c28 => ?_) (fun c28 => ?_)
      · refine x_bipush (v := -2) dX11_wouldSound_37 rfl ?_
        refine x_iret rfl dX11_wouldSound_39 ?_
        refine ⟨congrArg (fun z => some (Value.int z)) ?_, rfl⟩
        clear hS hP hO hst H ok hsh has hap hao hag hp
        unfold mn
        (repeat' split) <;> first | exact Eq.refl _ | contradiction | (exfalso; (simp only [Int32.lt_iff_toInt_lt, Int32.le_iff_toInt_le, ← Int32.toInt_inj, Int32.toInt_zero, t_1, t_2, t_3, t_4, t_5, t_6, t_7, t_8, t_9, t_10, t_11, t_12, t_13, t_14, t_16, t_20, t_30, t_32, t_48, t_50, t_57, t_60, t_90, t_99, t_120, t_126, t_m1, t_m2, t_m3, t_m4] at *; omega))
      · refine x_iload_n 4 dX11_wouldSound_31 rfl rfl ?_
        refine x_bipush (v := 9) dX11_wouldSound_32 rfl ?_
        refine x_icmp_le 40 dX11_wouldSound_34 (by decide) (fun c34 => ?_) (fun c34 => ?_)
        · first | refine x_aload 0 dX11_wouldSound_40 rfl ?_ | refine x_aloadN 0 dX11_wouldSound_40 rfl ?_
          first | refine x_aload 0 dX11_wouldSound_42 rfl ?_ | refine x_aloadN 0 dX11_wouldSound_42 rfl ?_
          refine x_get fX11_182 rfl dX11_wouldSound_44 (by with_reducible repeat first | assumption | exact hset_s | refine hget_n (by first | assumption | exact Ne.symm (by assumption) | exact nA ok (by omega) (by omega) (by omega)) ?_) (by rfl) ?_
          refine x_iload_n 3 dX11_wouldSound_47 rfl rfl ?_
          refine x_iadd dX11_wouldSound_48 ?_
          first | refine x_aload 0 dX11_wouldSound_49 rfl ?_ | refine x_aloadN 0 dX11_wouldSound_49 rfl ?_
          refine x_get fX11_185 rfl dX11_wouldSound_51 (by with_reducible repeat first | assumption | exact hset_s | refine hget_n (by first | assumption | exact Ne.symm (by assumption) | exact nA ok (by omega) (by omega) (by omega)) ?_) (by rfl) ?_
          refine x_iload_n 4 dX11_wouldSound_54 rfl rfl ?_
          refine x_iadd dX11_wouldSound_55 ?_
          refine x_bipush (v := 9) dX11_wouldSound_56 rfl ?_
          refine x_mmin rfl wX11_188 wMmin2 wMath3 wMmin4 (ble rfl) (ble rfl) dX11_wouldSound_58 ?_
          refine x_cV1 (As := [.int _, .int _]) (ct_X4_ringWith (by with_reducible repeat first | assumption | exact hset_s | refine hget_n (by first | assumption | exact Ne.symm (by assumption) | exact nA ok (by omega) (by omega) (by omega)) ?_) (by assumption) _ _) vX11_193 rfl (x_recv (by with_reducible repeat first | assumption | exact hset_s | refine hget_n (by first | assumption | exact Ne.symm (by assumption) | exact nA ok (by omega) (by omega) (by omega)) ?_) rfl) rfl ⟨ble rfl, ble rfl⟩ (ble rfl) dX11_wouldSound_61 rfl ?_
          refine x_iret rfl dX11_wouldSound_64 ?_
          refine ⟨congrArg (fun z => some (Value.int z)) ?_, rfl⟩
          clear hS hP hO hst H ok hsh has hap hao hag hp
          unfold mn
          (repeat' split) <;> first | exact Eq.refl _ | contradiction | (exfalso; (simp only [Int32.lt_iff_toInt_lt, Int32.le_iff_toInt_le, ← Int32.toInt_inj, Int32.toInt_zero, t_1, t_2, t_3, t_4, t_5, t_6, t_7, t_8, t_9, t_10, t_11, t_12, t_13, t_14, t_16, t_20, t_30, t_32, t_48, t_50, t_57, t_60, t_90, t_99, t_120, t_126, t_m1, t_m2, t_m3, t_m4] at *; omega))
        · refine x_bipush (v := -2) dX11_wouldSound_37 rfl ?_
          refine x_iret rfl dX11_wouldSound_39 ?_
          refine ⟨congrArg (fun z => some (Value.int z)) ?_, rfl⟩
          clear hS hP hO hst H ok hsh has hap hao hag hp
          unfold mn
          (repeat' split) <;> first | exact Eq.refl _ | contradiction | (exfalso; (simp only [Int32.lt_iff_toInt_lt, Int32.le_iff_toInt_le, ← Int32.toInt_inj, Int32.toInt_zero, t_1, t_2, t_3, t_4, t_5, t_6, t_7, t_8, t_9, t_10, t_11, t_12, t_13, t_14, t_16, t_20, t_30, t_32, t_48, t_50, t_57, t_60, t_90, t_99, t_120, t_126, t_m1, t_m2, t_m3, t_m4] at *; omega))
set_option maxRecDepth 100000 in
set_option maxHeartbeats 300000 in
theorem ct_xwouldSound_out {l : Launch} {G : Gl} {h : Hp} {N : Nat → Int32} {ns np no : Nat} {isv flt : Int32} (ok : Ok G) (hst : h (Ad G 0) = some (eSt G isv flt)) (H : ShW G h 1000 N ns np no) {x : Int32} (hx : ¬ (0 ≤ x ∧ x < N 3)) (y z : Int32) : CtR l G mX11_wouldSound 6 [.ref (Ad G 0), .int x, .int y, .int z] h (some (.int (-1))) (h) := by
  obtain ⟨hsh, has, hap, hao, ⟨gp, hag⟩, hns, hnp, hno, bs, bp, bo, hS, hP, hO, -⟩ := id H
  refine Ct.of (L := [(0, _), (1, _), (2, _), (3, _)]) (by decide) (ble rfl) rfl ?_
  refine x_aload_n 0 dX11_wouldSound_0 rfl rfl ?_
  refine x_get fX11_20 rfl dX11_wouldSound_1 (by with_reducible repeat first | assumption | exact hset_s | refine hget_n (by first | assumption | exact Ne.symm (by assumption) | exact nA ok (by omega) (by omega) (by omega)) ?_) (by rfl) ?_
  refine x_iload_n 1 dX11_wouldSound_4 rfl rfl ?_
  refine x_cV1 (As := [.int _]) (ct_X8_potAt_out ok (by omega) H hx) vX11_143 rfl (x_recv (by with_reducible repeat first | assumption | exact hset_s | refine hget_n (by first | assumption | exact Ne.symm (by assumption) | exact nA ok (by omega) (by omega) (by omega)) ?_) rfl) rfl ⟨ble rfl, ble rfl⟩ (ble rfl) dX11_wouldSound_5 rfl ?_
  refine x_astoreN (L' := [(4, _), (0, _), (1, _), (2, _), (3, _)]) dX11_wouldSound_8 (ble rfl) rfl ?_
  refine x_aloadN 0 dX11_wouldSound_10 rfl ?_
  refine x_ifnonnullN 17 dX11_wouldSound_12 (by decide) ?_
  refine x_iconst (v := -1) dX11_wouldSound_15 rfl ?_
  refine x_iret rfl dX11_wouldSound_16 ?_
  show some (Value.int (-1)) = some (Value.int (-1)) ∧ h = h
  exact ⟨rfl, rfl⟩
set_option maxRecDepth 100000 in
set_option maxHeartbeats 300000 in
theorem ct_xisAlike_ii {l : Launch} {G : Gl} {h : Hp} {N : Nat → Int32} {ns np no : Nat} {isv flt : Int32} (ok : Ok G) (hst : h (Ad G 0) = some (eSt G isv flt)) (H : ShW G h 1000 N ns np no) {i j : Nat} (hi : i < np) (hj : j < np) : CtR l G mX11_isAlike 6 [.ref (Ad G 0), .int (nI i), .int (nI j)] h (some (.int (alK (ringK (kOf (N (60 + 8 * i))) (N (61 + 8 * i)) (N (62 + 8 * i)) (N (63 + 8 * i))) (ringK (kOf (N (60 + 8 * j))) (N (61 + 8 * j)) (N (62 + 8 * j)) (N (63 + 8 * j)))))) (h) := by
  obtain ⟨hsh, has, hap, hao, ⟨gp, hag⟩, hns, hnp, hno, bs, bp, bo, hS, hP, hO, -⟩ := id H
  obtain ⟨hk, hp⟩ := hP i hi
  obtain ⟨hk2, hp2⟩ := hP j hj
  refine Ct.of (L := [(0, _), (1, _), (2, _)]) (by decide) (ble rfl) rfl ?_
  first | refine x_aload_n 0 dX11_isAlike_0 rfl rfl ?_ | refine x_aload_nN 0 dX11_isAlike_0 rfl rfl ?_
  refine x_get fX11_20 rfl dX11_isAlike_1 (by with_reducible repeat first | assumption | exact hset_s | refine hget_n (by first | assumption | exact Ne.symm (by assumption) | exact nA ok (by omega) (by omega) (by omega)) ?_) (by rfl) ?_
  refine x_iload_n 1 dX11_isAlike_4 rfl rfl ?_
  refine x_cV1 (As := [.int _]) (ct_X8_potAt_in ok (by omega) H hi) vX11_143 rfl (x_recv (by with_reducible repeat first | assumption | exact hset_s | refine hget_n (by first | assumption | exact Ne.symm (by assumption) | exact nA ok (by omega) (by omega) (by omega)) ?_) rfl) rfl ⟨ble rfl, ble rfl⟩ (ble rfl) dX11_isAlike_5 rfl ?_
  first | refine x_astore_n (L' := [(3, _), (0, _), (1, _), (2, _)]) dX11_isAlike_8 rfl (ble rfl) rfl ?_ | refine x_astore_nN (L' := [(3, _), (0, _), (1, _), (2, _)]) dX11_isAlike_8 rfl (ble rfl) rfl ?_
  first | refine x_aload_n 1 dX11_isAlike_9 rfl rfl ?_ | refine x_aload_nN 1 dX11_isAlike_9 rfl rfl ?_
  refine x_get fX11_20 rfl dX11_isAlike_10 (by with_reducible repeat first | assumption | exact hset_s | refine hget_n (by first | assumption | exact Ne.symm (by assumption) | exact nA ok (by omega) (by omega) (by omega)) ?_) (by rfl) ?_
  refine x_iload_n 3 dX11_isAlike_13 rfl rfl ?_
  refine x_cV1 (As := [.int _]) (ct_X8_potAt_in ok (by omega) H hj) vX11_143 rfl (x_recv (by with_reducible repeat first | assumption | exact hset_s | refine hget_n (by first | assumption | exact Ne.symm (by assumption) | exact nA ok (by omega) (by omega) (by omega)) ?_) rfl) rfl ⟨ble rfl, ble rfl⟩ (ble rfl) dX11_isAlike_14 rfl ?_
  first | refine x_astore (L' := [(4, _), (3, _), (0, _), (1, _), (2, _)]) dX11_isAlike_17 (ble rfl) rfl ?_ | refine x_astoreN (L' := [(4, _), (3, _), (0, _), (1, _), (2, _)]) dX11_isAlike_17 (ble rfl) rfl ?_
  first | refine x_aload_n 1 dX11_isAlike_19 rfl rfl ?_ | refine x_aload_nN 1 dX11_isAlike_19 rfl rfl ?_
  refine x_ifnull 47 dX11_isAlike_20 (by decide) ?_
  first | refine x_aload 0 dX11_isAlike_23 rfl ?_ | refine x_aloadN 0 dX11_isAlike_23 rfl ?_
  refine x_ifnull 47 dX11_isAlike_25 (by decide) ?_
  first | refine x_aload_n 1 dX11_isAlike_28 rfl rfl ?_ | refine x_aload_nN 1 dX11_isAlike_28 rfl rfl ?_
  refine x_cV1 (As := []) (ct_X4_ring hp hk) vX11_157 rfl (x_recv (by with_reducible repeat first | assumption | exact hset_s | refine hget_n (by first | assumption | exact Ne.symm (by assumption) | exact nA ok (by omega) (by omega) (by omega)) ?_) rfl) rfl ⟨ble rfl, ble rfl⟩ (ble rfl) dX11_isAlike_29 rfl ?_
  first | refine x_aload 0 dX11_isAlike_32 rfl ?_ | refine x_aloadN 0 dX11_isAlike_32 rfl ?_
  refine x_cV1 (As := []) (ct_X4_ring hp2 hk2) vX11_157 rfl (x_recv (by with_reducible repeat first | assumption | exact hset_s | refine hget_n (by first | assumption | exact Ne.symm (by assumption) | exact nA ok (by omega) (by omega) (by omega)) ?_) rfl) rfl ⟨ble rfl, ble rfl⟩ (ble rfl) dX11_isAlike_34 rfl ?_
  refine x_cS1 (As := [.int _, .int _]) (ct_X11_ringAlike _ _) vX11_163 rfl rfl ⟨ble rfl, ble rfl⟩ (ble rfl) dX11_isAlike_37 rfl ?_
  refine x_if_eq 47 dX11_isAlike_40 (by decide) (fun c40 => ?_) (fun c40 => ?_)
  · refine x_iconst (v := 0) dX11_isAlike_47 rfl ?_
    refine x_zret rfl (by first | rfl | (split <;> rfl) | (unfold b2i; split <;> rfl)) dX11_isAlike_48 ?_
    refine ⟨congrArg (fun z => some (Value.int z)) ?_, rfl⟩
    first | exact c40.symm | exact (alK_1 c40).symm
  · refine x_iconst (v := 1) dX11_isAlike_43 rfl ?_
    refine x_goto 48 dX11_isAlike_44 (by decide) ?_
    refine x_zret rfl (by first | rfl | (split <;> rfl) | (unfold b2i; split <;> rfl)) dX11_isAlike_48 ?_
    refine ⟨congrArg (fun z => some (Value.int z)) ?_, rfl⟩
    first | exact c40.symm | exact (alK_1 c40).symm
set_option maxRecDepth 100000 in
set_option maxHeartbeats 300000 in
theorem ct_xisAlike_io {l : Launch} {G : Gl} {h : Hp} {N : Nat → Int32} {ns np no : Nat} {isv flt : Int32} (ok : Ok G) (hst : h (Ad G 0) = some (eSt G isv flt)) (H : ShW G h 1000 N ns np no) {i : Nat} (hi : i < np) {x : Int32} (hx : ¬ (0 ≤ x ∧ x < N 3)) : CtR l G mX11_isAlike 6 [.ref (Ad G 0), .int (nI i), .int x] h (some (.int 0)) (h) := by
  obtain ⟨hsh, has, hap, hao, ⟨gp, hag⟩, hns, hnp, hno, bs, bp, bo, hS, hP, hO, -⟩ := id H
  refine Ct.of (L := [(0, _), (1, _), (2, _)]) (by decide) (ble rfl) rfl ?_
  refine x_aload_n 0 dX11_isAlike_0 rfl rfl ?_
  refine x_get fX11_20 rfl dX11_isAlike_1 (by with_reducible repeat first | assumption | exact hset_s | refine hget_n (by first | assumption | exact Ne.symm (by assumption) | exact nA ok (by omega) (by omega) (by omega)) ?_) (by rfl) ?_
  refine x_iload_n 1 dX11_isAlike_4 rfl rfl ?_
  refine x_cV1 (As := [.int _]) (ct_X8_potAt_in ok (by omega) H hi) vX11_143 rfl (x_recv (by with_reducible repeat first | assumption | exact hset_s | refine hget_n (by first | assumption | exact Ne.symm (by assumption) | exact nA ok (by omega) (by omega) (by omega)) ?_) rfl) rfl ⟨ble rfl, ble rfl⟩ (ble rfl) dX11_isAlike_5 rfl ?_
  refine x_astore_n (L' := [(3, _), (0, _), (1, _), (2, _)]) dX11_isAlike_8 rfl (ble rfl) rfl ?_
  refine x_aload_n 1 dX11_isAlike_9 rfl rfl ?_
  refine x_get fX11_20 rfl dX11_isAlike_10 (by with_reducible repeat first | assumption | exact hset_s | refine hget_n (by first | assumption | exact Ne.symm (by assumption) | exact nA ok (by omega) (by omega) (by omega)) ?_) (by rfl) ?_
  refine x_iload_n 3 dX11_isAlike_13 rfl rfl ?_
  refine x_cV1 (As := [.int _]) (ct_X8_potAt_out ok (by omega) H hx) vX11_143 rfl (x_recv (by with_reducible repeat first | assumption | exact hset_s | refine hget_n (by first | assumption | exact Ne.symm (by assumption) | exact nA ok (by omega) (by omega) (by omega)) ?_) rfl) rfl ⟨ble rfl, ble rfl⟩ (ble rfl) dX11_isAlike_14 rfl ?_
  refine x_astoreN (L' := [(4, _), (3, _), (0, _), (1, _), (2, _)]) dX11_isAlike_17 (ble rfl) rfl ?_
  refine x_aload_n 1 dX11_isAlike_19 rfl rfl ?_
  refine x_ifnull 47 dX11_isAlike_20 (by decide) ?_
  refine x_aloadN 0 dX11_isAlike_23 rfl ?_
  refine x_ifnullN 47 dX11_isAlike_25 (by decide) ?_
  refine x_iconst (v := 0) dX11_isAlike_47 rfl ?_
  refine x_zret rfl (by first | rfl | (split <;> rfl) | (unfold b2i; split <;> rfl)) dX11_isAlike_48 ?_
  show some (Value.int 0) = some (Value.int 0) ∧ h = h
  exact ⟨rfl, rfl⟩
set_option maxRecDepth 100000 in
set_option maxHeartbeats 300000 in
theorem ct_xisAlike_oi {l : Launch} {G : Gl} {h : Hp} {N : Nat → Int32} {ns np no : Nat} {isv flt : Int32} (ok : Ok G) (hst : h (Ad G 0) = some (eSt G isv flt)) (H : ShW G h 1000 N ns np no) {x : Int32} (hx : ¬ (0 ≤ x ∧ x < N 3)) {i : Nat} (hi : i < np) : CtR l G mX11_isAlike 6 [.ref (Ad G 0), .int x, .int (nI i)] h (some (.int 0)) (h) := by
  obtain ⟨hsh, has, hap, hao, ⟨gp, hag⟩, hns, hnp, hno, bs, bp, bo, hS, hP, hO, -⟩ := id H
  refine Ct.of (L := [(0, _), (1, _), (2, _)]) (by decide) (ble rfl) rfl ?_
  refine x_aload_n 0 dX11_isAlike_0 rfl rfl ?_
  refine x_get fX11_20 rfl dX11_isAlike_1 (by with_reducible repeat first | assumption | exact hset_s | refine hget_n (by first | assumption | exact Ne.symm (by assumption) | exact nA ok (by omega) (by omega) (by omega)) ?_) (by rfl) ?_
  refine x_iload_n 1 dX11_isAlike_4 rfl rfl ?_
  refine x_cV1 (As := [.int _]) (ct_X8_potAt_out ok (by omega) H hx) vX11_143 rfl (x_recv (by with_reducible repeat first | assumption | exact hset_s | refine hget_n (by first | assumption | exact Ne.symm (by assumption) | exact nA ok (by omega) (by omega) (by omega)) ?_) rfl) rfl ⟨ble rfl, ble rfl⟩ (ble rfl) dX11_isAlike_5 rfl ?_
  refine x_astore_nN (L' := [(3, _), (0, _), (1, _), (2, _)]) dX11_isAlike_8 rfl (ble rfl) rfl ?_
  refine x_aload_n 1 dX11_isAlike_9 rfl rfl ?_
  refine x_get fX11_20 rfl dX11_isAlike_10 (by with_reducible repeat first | assumption | exact hset_s | refine hget_n (by first | assumption | exact Ne.symm (by assumption) | exact nA ok (by omega) (by omega) (by omega)) ?_) (by rfl) ?_
  refine x_iload_n 3 dX11_isAlike_13 rfl rfl ?_
  refine x_cV1 (As := [.int _]) (ct_X8_potAt_in ok (by omega) H hi) vX11_143 rfl (x_recv (by with_reducible repeat first | assumption | exact hset_s | refine hget_n (by first | assumption | exact Ne.symm (by assumption) | exact nA ok (by omega) (by omega) (by omega)) ?_) rfl) rfl ⟨ble rfl, ble rfl⟩ (ble rfl) dX11_isAlike_14 rfl ?_
  refine x_astore (L' := [(4, _), (3, _), (0, _), (1, _), (2, _)]) dX11_isAlike_17 (ble rfl) rfl ?_
  refine x_aload_nN 1 dX11_isAlike_19 rfl rfl ?_
  refine x_ifnullN 47 dX11_isAlike_20 (by decide) ?_
  refine x_iconst (v := 0) dX11_isAlike_47 rfl ?_
  refine x_zret rfl (by first | rfl | (split <;> rfl) | (unfold b2i; split <;> rfl)) dX11_isAlike_48 ?_
  show some (Value.int 0) = some (Value.int 0) ∧ h = h
  exact ⟨rfl, rfl⟩
set_option maxRecDepth 100000 in
set_option maxHeartbeats 300000 in
theorem ct_xisAlike_oo {l : Launch} {G : Gl} {h : Hp} {N : Nat → Int32} {ns np no : Nat} {isv flt : Int32} (ok : Ok G) (hst : h (Ad G 0) = some (eSt G isv flt)) (H : ShW G h 1000 N ns np no) {x : Int32} (hx : ¬ (0 ≤ x ∧ x < N 3)) {y : Int32} (hy : ¬ (0 ≤ y ∧ y < N 3)) : CtR l G mX11_isAlike 6 [.ref (Ad G 0), .int x, .int y] h (some (.int 0)) (h) := by
  obtain ⟨hsh, has, hap, hao, ⟨gp, hag⟩, hns, hnp, hno, bs, bp, bo, hS, hP, hO, -⟩ := id H
  refine Ct.of (L := [(0, _), (1, _), (2, _)]) (by decide) (ble rfl) rfl ?_
  refine x_aload_n 0 dX11_isAlike_0 rfl rfl ?_
  refine x_get fX11_20 rfl dX11_isAlike_1 (by with_reducible repeat first | assumption | exact hset_s | refine hget_n (by first | assumption | exact Ne.symm (by assumption) | exact nA ok (by omega) (by omega) (by omega)) ?_) (by rfl) ?_
  refine x_iload_n 1 dX11_isAlike_4 rfl rfl ?_
  refine x_cV1 (As := [.int _]) (ct_X8_potAt_out ok (by omega) H hx) vX11_143 rfl (x_recv (by with_reducible repeat first | assumption | exact hset_s | refine hget_n (by first | assumption | exact Ne.symm (by assumption) | exact nA ok (by omega) (by omega) (by omega)) ?_) rfl) rfl ⟨ble rfl, ble rfl⟩ (ble rfl) dX11_isAlike_5 rfl ?_
  refine x_astore_nN (L' := [(3, _), (0, _), (1, _), (2, _)]) dX11_isAlike_8 rfl (ble rfl) rfl ?_
  refine x_aload_n 1 dX11_isAlike_9 rfl rfl ?_
  refine x_get fX11_20 rfl dX11_isAlike_10 (by with_reducible repeat first | assumption | exact hset_s | refine hget_n (by first | assumption | exact Ne.symm (by assumption) | exact nA ok (by omega) (by omega) (by omega)) ?_) (by rfl) ?_
  refine x_iload_n 3 dX11_isAlike_13 rfl rfl ?_
  refine x_cV1 (As := [.int _]) (ct_X8_potAt_out ok (by omega) H hy) vX11_143 rfl (x_recv (by with_reducible repeat first | assumption | exact hset_s | refine hget_n (by first | assumption | exact Ne.symm (by assumption) | exact nA ok (by omega) (by omega) (by omega)) ?_) rfl) rfl ⟨ble rfl, ble rfl⟩ (ble rfl) dX11_isAlike_14 rfl ?_
  refine x_astoreN (L' := [(4, _), (3, _), (0, _), (1, _), (2, _)]) dX11_isAlike_17 (ble rfl) rfl ?_
  refine x_aload_nN 1 dX11_isAlike_19 rfl rfl ?_
  refine x_ifnullN 47 dX11_isAlike_20 (by decide) ?_
  refine x_iconst (v := 0) dX11_isAlike_47 rfl ?_
  refine x_zret rfl (by first | rfl | (split <;> rfl) | (unfold b2i; split <;> rfl)) dX11_isAlike_48 ?_
  show some (Value.int 0) = some (Value.int 0) ∧ h = h
  exact ⟨rfl, rfl⟩
set_option maxRecDepth 100000 in
set_option maxHeartbeats 300000 in
theorem ct_xgoodFor_in {l : Launch} {G : Gl} {h : Hp} {N : Nat → Int32} {ns np no : Nat} {isv flt : Int32} (ok : Ok G) (hst : h (Ad G 0) = some (eSt G isv flt)) (H : ShW G h 1000 N ns np no) {i : Nat} (hi : i < no) : CtR l G mX11_goodFor 6 [.ref (Ad G 0), .int (nI i)] h (some (.int (lowN N 0 i np))) (h) := by
  obtain ⟨hsh, has, hap, hao, ⟨gp, hag⟩, hns, hnp, hno, bs, bp, bo, hS, hP, hO, -⟩ := id H
  refine Ct.of (L := [(0, _), (1, _)]) (by decide) (ble rfl) rfl ?_
  first | refine x_aload_n 0 dX11_goodFor_0 rfl rfl ?_ | refine x_aload_nN 0 dX11_goodFor_0 rfl rfl ?_
  refine x_get fX11_20 rfl dX11_goodFor_1 (by with_reducible repeat first | assumption | exact hset_s | refine hget_n (by first | assumption | exact Ne.symm (by assumption) | exact nA ok (by omega) (by omega) (by omega)) ?_) (by rfl) ?_
  refine x_iload_n 1 dX11_goodFor_4 rfl rfl ?_
  refine x_cV1 (As := [.int _]) (ct_X8_orderAt_in ok (by omega) H hi) vX11_150 rfl (x_recv (by with_reducible repeat first | assumption | exact hset_s | refine hget_n (by first | assumption | exact Ne.symm (by assumption) | exact nA ok (by omega) (by omega) (by omega)) ?_) rfl) rfl ⟨ble rfl, ble rfl⟩ (ble rfl) dX11_goodFor_5 rfl ?_
  first | refine x_astore_n (L' := [(2, _), (0, _), (1, _)]) dX11_goodFor_8 rfl (ble rfl) rfl ?_ | refine x_astore_nN (L' := [(2, _), (0, _), (1, _)]) dX11_goodFor_8 rfl (ble rfl) rfl ?_
  first | refine x_aload_n 0 dX11_goodFor_9 rfl rfl ?_ | refine x_aload_nN 0 dX11_goodFor_9 rfl rfl ?_
  refine x_ifnonnull 17 dX11_goodFor_10 (by decide) ?_
  first | refine x_aload_n 1 dX11_goodFor_17 rfl rfl ?_ | refine x_aload_nN 1 dX11_goodFor_17 rfl rfl ?_
  refine x_get fX11_20 rfl dX11_goodFor_18 (by with_reducible repeat first | assumption | exact hset_s | refine hget_n (by first | assumption | exact Ne.symm (by assumption) | exact nA ok (by omega) (by omega) (by omega)) ?_) (by rfl) ?_
  first | refine x_aload_n 0 dX11_goodFor_21 rfl rfl ?_ | refine x_aload_nN 0 dX11_goodFor_21 rfl rfl ?_
  refine x_iconst (v := 0) dX11_goodFor_22 rfl ?_
  refine x_cV1 (As := [.ref _, .int _]) (ct_X8_lowestGood ok (by omega) H hi 0) vX11_221 rfl (x_recv (by with_reducible repeat first | assumption | exact hset_s | refine hget_n (by first | assumption | exact Ne.symm (by assumption) | exact nA ok (by omega) (by omega) (by omega)) ?_) rfl) rfl ⟨ble rfl, ble rfl⟩ (ble rfl) dX11_goodFor_23 rfl ?_
  refine x_iret rfl dX11_goodFor_26 ?_
  show some (Value.int (lowN N 0 i np)) = some (Value.int (lowN N 0 i np)) ∧ h = h
  exact ⟨rfl, rfl⟩
set_option maxRecDepth 100000 in
set_option maxHeartbeats 300000 in
theorem ct_xgoodFor_out {l : Launch} {G : Gl} {h : Hp} {N : Nat → Int32} {ns np no : Nat} {isv flt : Int32} (ok : Ok G) (hst : h (Ad G 0) = some (eSt G isv flt)) (H : ShW G h 1000 N ns np no) {x : Int32} (hx : ¬ (0 ≤ x ∧ x < N 4)) : CtR l G mX11_goodFor 6 [.ref (Ad G 0), .int x] h (some (.int (-1))) (h) := by
  obtain ⟨hsh, has, hap, hao, ⟨gp, hag⟩, hns, hnp, hno, bs, bp, bo, hS, hP, hO, -⟩ := id H
  refine Ct.of (L := [(0, _), (1, _)]) (by decide) (ble rfl) rfl ?_
  refine x_aload_n 0 dX11_goodFor_0 rfl rfl ?_
  refine x_get fX11_20 rfl dX11_goodFor_1 (by with_reducible repeat first | assumption | exact hset_s | refine hget_n (by first | assumption | exact Ne.symm (by assumption) | exact nA ok (by omega) (by omega) (by omega)) ?_) (by rfl) ?_
  refine x_iload_n 1 dX11_goodFor_4 rfl rfl ?_
  refine x_cV1 (As := [.int _]) (ct_X8_orderAt_out ok (by omega) H hx) vX11_150 rfl (x_recv (by with_reducible repeat first | assumption | exact hset_s | refine hget_n (by first | assumption | exact Ne.symm (by assumption) | exact nA ok (by omega) (by omega) (by omega)) ?_) rfl) rfl ⟨ble rfl, ble rfl⟩ (ble rfl) dX11_goodFor_5 rfl ?_
  refine x_astore_nN (L' := [(2, _), (0, _), (1, _)]) dX11_goodFor_8 rfl (ble rfl) rfl ?_
  refine x_aload_nN 0 dX11_goodFor_9 rfl rfl ?_
  refine x_ifnonnullN 17 dX11_goodFor_10 (by decide) ?_
  refine x_iconst (v := -1) dX11_goodFor_13 rfl ?_
  refine x_goto 26 dX11_goodFor_14 (by decide) ?_
  refine x_iret rfl dX11_goodFor_26 ?_
  show some (Value.int (-1)) = some (Value.int (-1)) ∧ h = h
  exact ⟨rfl, rfl⟩
set_option maxRecDepth 100000 in
set_option maxHeartbeats 300000 in
theorem ct_xcopper {l : Launch} {G : Gl} {h : Hp} {N : Nat → Int32} {ns np no : Nat} {isv flt : Int32} (ok : Ok G) (hst : h (Ad G 0) = some (eSt G isv flt)) (H : ShW G h 1000 N ns np no) : CtR l G mX11_copper 6 [.ref (Ad G 0)] h (some (.int (sm2 (fun i => kArea (kOf (N (60 + 8 * i))) * N (61 + 8 * i)) (sm (fun i => N (13 + 4 * i) * N (12 + 4 * i)) ns) np))) (h) := by
  obtain ⟨hsh, has, hap, hao, ⟨gp, hag⟩, hns, hnp, hno, bs, bp, bo, hS, hP, hO, -⟩ := id H
  refine Ct.of (L := [(0, _)]) (by decide) (ble rfl) rfl ?_
  first | refine x_aload_n 0 dX11_copper_0 rfl rfl ?_ | refine x_aload_nN 0 dX11_copper_0 rfl rfl ?_
  refine x_get fX11_20 rfl dX11_copper_1 (by with_reducible repeat first | assumption | exact hset_s | refine hget_n (by first | assumption | exact Ne.symm (by assumption) | exact nA ok (by omega) (by omega) (by omega)) ?_) (by rfl) ?_
  refine x_cV1 (As := []) (ct_X8_copperByPart ok (by omega) H) vX11_231 rfl (x_recv (by with_reducible repeat first | assumption | exact hset_s | refine hget_n (by first | assumption | exact Ne.symm (by assumption) | exact nA ok (by omega) (by omega) (by omega)) ?_) rfl) rfl ⟨ble rfl, ble rfl⟩ (ble rfl) dX11_copper_4 rfl ?_
  refine x_iret rfl dX11_copper_7 ?_
  show some (Value.int (sm2 (fun i => kArea (kOf (N (60 + 8 * i))) * N (61 + 8 * i)) (sm (fun i => N (13 + 4 * i) * N (12 + 4 * i)) ns) np)) = some (Value.int (sm2 (fun i => kArea (kOf (N (60 + 8 * i))) * N (61 + 8 * i)) (sm (fun i => N (13 + 4 * i) * N (12 + 4 * i)) ns) np)) ∧ h = h
  exact ⟨rfl, rfl⟩
set_option maxRecDepth 100000 in
set_option maxHeartbeats 300000 in
theorem ct_xcopperAgain {l : Launch} {G : Gl} {h : Hp} {N : Nat → Int32} {ns np no : Nat} {isv flt : Int32} (ok : Ok G) (hst : h (Ad G 0) = some (eSt G isv flt)) (H : ShW G h 1000 N ns np no) : CtR l G mX11_copperAgain 6 [.ref (Ad G 0)] h (some (.int (sm (fun i => N (15 + 4 * i) * N (12 + 4 * i)) ns))) (h) := by
  obtain ⟨hsh, has, hap, hao, ⟨gp, hag⟩, hns, hnp, hno, bs, bp, bo, hS, hP, hO, -⟩ := id H
  refine Ct.of (L := [(0, _)]) (by decide) (ble rfl) rfl ?_
  first | refine x_aload_n 0 dX11_copperAgain_0 rfl rfl ?_ | refine x_aload_nN 0 dX11_copperAgain_0 rfl rfl ?_
  refine x_get fX11_20 rfl dX11_copperAgain_1 (by with_reducible repeat first | assumption | exact hset_s | refine hget_n (by first | assumption | exact Ne.symm (by assumption) | exact nA ok (by omega) (by omega) (by omega)) ?_) (by rfl) ?_
  refine x_cV1 (As := []) (ct_X8_copperBySheet ok (by omega) H) vX11_234 rfl (x_recv (by with_reducible repeat first | assumption | exact hset_s | refine hget_n (by first | assumption | exact Ne.symm (by assumption) | exact nA ok (by omega) (by omega) (by omega)) ?_) rfl) rfl ⟨ble rfl, ble rfl⟩ (ble rfl) dX11_copperAgain_4 rfl ?_
  refine x_iret rfl dX11_copperAgain_7 ?_
  show some (Value.int (sm (fun i => N (15 + 4 * i) * N (12 + 4 * i)) ns)) = some (Value.int (sm (fun i => N (15 + 4 * i) * N (12 + 4 * i)) ns)) ∧ h = h
  exact ⟨rfl, rfl⟩
set_option maxRecDepth 100000 in
set_option maxHeartbeats 300000 in
theorem ct_xcoinsAgain {l : Launch} {G : Gl} {h : Hp} {N : Nat → Int32} {ns np no : Nat} {isv flt : Int32} (ok : Ok G) (hst : h (Ad G 0) = some (eSt G isv flt)) (H : ShW G h 1000 N ns np no) : CtR l G mX11_coinsAgain 6 [.ref (Ad G 0)] h (some (.int (30 + sm (fun i => N (192 + 5 * i)) no - sm (fun i => N (12 + 4 * i)) ns - (N 11 - 20)))) (h) := by
  obtain ⟨hsh, has, hap, hao, ⟨gp, hag⟩, hns, hnp, hno, bs, bp, bo, hS, hP, hO, -⟩ := id H
  refine Ct.of (L := [(0, _)]) (by decide) (ble rfl) rfl ?_
  refine x_bipush (v := 30) dX11_coinsAgain_0 rfl ?_
  first | refine x_aload_n 0 dX11_coinsAgain_2 rfl rfl ?_ | refine x_aload_nN 0 dX11_coinsAgain_2 rfl rfl ?_
  refine x_get fX11_20 rfl dX11_coinsAgain_3 (by with_reducible repeat first | assumption | exact hset_s | refine hget_n (by first | assumption | exact Ne.symm (by assumption) | exact nA ok (by omega) (by omega) (by omega)) ?_) (by rfl) ?_
  refine x_cV1 (As := []) (ct_X8_paidSoFar ok (by omega) H) vX11_237 rfl (x_recv (by with_reducible repeat first | assumption | exact hset_s | refine hget_n (by first | assumption | exact Ne.symm (by assumption) | exact nA ok (by omega) (by omega) (by omega)) ?_) rfl) rfl ⟨ble rfl, ble rfl⟩ (ble rfl) dX11_coinsAgain_6 rfl ?_
  refine x_iadd dX11_coinsAgain_9 ?_
  first | refine x_aload_n 0 dX11_coinsAgain_10 rfl rfl ?_ | refine x_aload_nN 0 dX11_coinsAgain_10 rfl rfl ?_
  refine x_get fX11_20 rfl dX11_coinsAgain_11 (by with_reducible repeat first | assumption | exact hset_s | refine hget_n (by first | assumption | exact Ne.symm (by assumption) | exact nA ok (by omega) (by omega) (by omega)) ?_) (by rfl) ?_
  refine x_cV1 (As := []) (ct_X8_sheetsCost ok (by omega) H) vX11_240 rfl (x_recv (by with_reducible repeat first | assumption | exact hset_s | refine hget_n (by first | assumption | exact Ne.symm (by assumption) | exact nA ok (by omega) (by omega) (by omega)) ?_) rfl) rfl ⟨ble rfl, ble rfl⟩ (ble rfl) dX11_coinsAgain_14 rfl ?_
  refine x_isub dX11_coinsAgain_17 ?_
  first | refine x_aload_n 0 dX11_coinsAgain_18 rfl rfl ?_ | refine x_aload_nN 0 dX11_coinsAgain_18 rfl rfl ?_
  refine x_get fX11_20 rfl dX11_coinsAgain_19 (by with_reducible repeat first | assumption | exact hset_s | refine hget_n (by first | assumption | exact Ne.symm (by assumption) | exact nA ok (by omega) (by omega) (by omega)) ?_) (by rfl) ?_
  refine x_get fX11_243 rfl dX11_coinsAgain_22 (by with_reducible repeat first | assumption | exact hset_s | refine hget_n (by first | assumption | exact Ne.symm (by assumption) | exact nA ok (by omega) (by omega) (by omega)) ?_) (by rfl) ?_
  refine x_isub dX11_coinsAgain_25 ?_
  refine x_iret rfl dX11_coinsAgain_26 ?_
  show some (Value.int (30 + sm (fun i => N (192 + 5 * i)) no - sm (fun i => N (12 + 4 * i)) ns - (N 11 - 20))) = some (Value.int (30 + sm (fun i => N (192 + 5 * i)) no - sm (fun i => N (12 + 4 * i)) ns - (N 11 - 20))) ∧ h = h
  exact ⟨rfl, rfl⟩
set_option maxRecDepth 100000 in
set_option maxHeartbeats 300000 in
theorem ct_xbarsAgain {l : Launch} {G : Gl} {h : Hp} {N : Nat → Int32} {ns np no : Nat} {isv flt : Int32} (ok : Ok G) (hst : h (Ad G 0) = some (eSt G isv flt)) (H : ShW G h 1000 N ns np no) : CtR l G mX11_barsAgain 6 [.ref (Ad G 0)] h (some (.int (20 + (N 11 - 20) - N 8))) (h) := by
  obtain ⟨hsh, has, hap, hao, ⟨gp, hag⟩, hns, hnp, hno, bs, bp, bo, hS, hP, hO, -⟩ := id H
  refine Ct.of (L := [(0, _)]) (by decide) (ble rfl) rfl ?_
  refine x_bipush (v := 20) dX11_barsAgain_0 rfl ?_
  first | refine x_aload_n 0 dX11_barsAgain_2 rfl rfl ?_ | refine x_aload_nN 0 dX11_barsAgain_2 rfl rfl ?_
  refine x_get fX11_20 rfl dX11_barsAgain_3 (by with_reducible repeat first | assumption | exact hset_s | refine hget_n (by first | assumption | exact Ne.symm (by assumption) | exact nA ok (by omega) (by omega) (by omega)) ?_) (by rfl) ?_
  refine x_get fX11_243 rfl dX11_barsAgain_6 (by with_reducible repeat first | assumption | exact hset_s | refine hget_n (by first | assumption | exact Ne.symm (by assumption) | exact nA ok (by omega) (by omega) (by omega)) ?_) (by rfl) ?_
  refine x_iadd dX11_barsAgain_9 ?_
  first | refine x_aload_n 0 dX11_barsAgain_10 rfl rfl ?_ | refine x_aload_nN 0 dX11_barsAgain_10 rfl rfl ?_
  refine x_get fX11_20 rfl dX11_barsAgain_11 (by with_reducible repeat first | assumption | exact hset_s | refine hget_n (by first | assumption | exact Ne.symm (by assumption) | exact nA ok (by omega) (by omega) (by omega)) ?_) (by rfl) ?_
  refine x_get fX11_246 rfl dX11_barsAgain_14 (by with_reducible repeat first | assumption | exact hset_s | refine hget_n (by first | assumption | exact Ne.symm (by assumption) | exact nA ok (by omega) (by omega) (by omega)) ?_) (by rfl) ?_
  refine x_isub dX11_barsAgain_17 ?_
  refine x_iret rfl dX11_barsAgain_18 ?_
  show some (Value.int (20 + (N 11 - 20) - N 8)) = some (Value.int (20 + (N 11 - 20) - N 8)) ∧ h = h
  exact ⟨rfl, rfl⟩
