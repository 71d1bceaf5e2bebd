set_option maxRecDepth 100000 in
set_option maxHeartbeats 4000000 in
theorem ct_soundAgain_in {l : Launch} {G : Gl} {h : Hp} {sv rem typ err lin why wha beh its siz att wro tol : Int32} {N : Nat → Int32} (ok : Ok G) {ns np no : Nat} (A : RowA N ns np no) {i : Nat} (hi : i < np) : CtR l G mX12_soundAgain 9 [.ref (Ad G 20), .int (nI i)] (mH G h (eMd G sv rem typ err lin why wha beh its siz att wro tol) N) (some (.int (ringK (kOf (N (60 + 8 * i))) (N (61 + 8 * i)) (N (62 + 8 * i)) (N (63 + 8 * i))))) (mH G h (eMd G sv rem typ err lin why wha beh its siz att wro tol) N) := by
  refine Ct.of (L := [(0, _), (1, _)]) (by decide) (ble rfl) rfl ?_
  first | refine x_aload_n 0 dX12_soundAgain_0 rfl rfl ?_ | refine x_aload_nN 0 dX12_soundAgain_0 rfl rfl ?_
  refine x_iload_n 1 dX12_soundAgain_1 rfl rfl ?_
  refine x_cV1 (As := [.int _]) (ct_sound_in ok A hi) vX12_197 rfl (x_recv (by with_reducible repeat first | assumption | exact mH_0 ok | exact mH_1 | exact hset_s | refine mH_o (by first | assumption | exact nA ok (by omega) (by omega) (by omega)) (by first | assumption | exact nA ok (by omega) (by omega) (by omega)) ?_ | refine hget_n (by first | assumption | exact Ne.symm (by assumption) | exact nA ok (by omega) (by omega) (by omega)) ?_) rfl) rfl ⟨ble rfl, ble rfl⟩ (ble rfl) dX12_soundAgain_2 rfl ?_
  refine x_iret rfl dX12_soundAgain_5 ?_
  exact ⟨rfl, rfl⟩
set_option maxRecDepth 100000 in
set_option maxHeartbeats 4000000 in
theorem ct_soundAgain_out {l : Launch} {G : Gl} {h : Hp} {sv rem typ err lin why wha beh its siz att wro tol : Int32} {N : Nat → Int32} (ok : Ok G) {ns np no : Nat} (A : RowA N ns np no) (x : Int32) (hx : ¬ (0 ≤ x ∧ x < N 3)) : CtR l G mX12_soundAgain 9 [.ref (Ad G 20), .int x] (mH G h (eMd G sv rem typ err lin why wha beh its siz att wro tol) N) (some (.int (-1))) (mH G h (eMd G sv rem typ err lin why wha beh its siz att wro tol) N) := by
  refine Ct.of (L := [(0, _), (1, _)]) (by decide) (ble rfl) rfl ?_
  first | refine x_aload_n 0 dX12_soundAgain_0 rfl rfl ?_ | refine x_aload_nN 0 dX12_soundAgain_0 rfl rfl ?_
  refine x_iload_n 1 dX12_soundAgain_1 rfl rfl ?_
  refine x_cV1 (As := [.int _]) (ct_sound_out ok A x hx) vX12_197 rfl (x_recv (by with_reducible repeat first | assumption | exact mH_0 ok | exact mH_1 | exact hset_s | refine mH_o (by first | assumption | exact nA ok (by omega) (by omega) (by omega)) (by first | assumption | exact nA ok (by omega) (by omega) (by omega)) ?_ | refine hget_n (by first | assumption | exact Ne.symm (by assumption) | exact nA ok (by omega) (by omega) (by omega)) ?_) rfl) rfl ⟨ble rfl, ble rfl⟩ (ble rfl) dX12_soundAgain_2 rfl ?_
  refine x_iret rfl dX12_soundAgain_5 ?_
  exact ⟨rfl, rfl⟩
