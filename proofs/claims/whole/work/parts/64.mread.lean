theorem TxF.ple {tx : List Int32} {p : Nat} : ∀ (k a : Nat), TxF tx p a k → a ≤ tx.length → p ≤ 2 * tx.length + 10
  | 0, a, F, h => by
    rcases F with F | ⟨v, f, s, C, -, -⟩
    · have := F.ple
      omega
    · have := C.le
      omega
  | k + 1, a, ⟨v, f, s, a', C, q, F⟩, h => TxF.ple k (a' + 1) F (by have := q.1; omega)
set_option maxRecDepth 100000 in
set_option maxHeartbeats 1000000 in
theorem ct_mread_n {l : Launch} {G : Gl} {h : Hp} {sv rem err lin why wha beh its siz att wro tol : Int32} {N : Nat → Int32} (ok : Ok G) {tv : Nat → Int32} (htext : h (Ad G 27) = some (eI G 60 tv)) {tx : List Int32} (hT : ∀ i, i < tx.length → tv i = tx.getD i 0) (h60 : tx.length ≤ 60) {kd0 nb0 : Nat → Int32} (h30 : h (Ad G 30) = some (eI G 16 kd0)) (h31 : h (Ad G 31) = some (eI G 32 nb0)) {p k : Nat} (F : TxF tx p 0 k) : Ct l G mX12_read 12 (0) (0) [.ref (Ad G 20)] (mH G h (eMd G sv rem (nI tx.length) err lin why wha beh its siz att wro tol) N) (fun w h' => w = some (.int (-2)) ∧ ∃ kd nb att tol', h' = (mH G (hset (hset h (Ad G 30) (eI G 16 kd)) (Ad G 31) (eI G 32 nb)) (eMd G sv rem 0 (nI p) lin why wha beh its (nI tx.length) att (nI p) tol') N)) := by
  have hpl := TxF.ple k 0 F (by omega)
  have hnp : ¬ nI p = -1 := nIm (by omega)
  refine Ct.of (L := [(0, _)]) (by decide) (ble rfl) rfl ?_
  first | refine x_aload_n 0 dX12_read_0 rfl rfl ?_ | refine x_aload_nN 0 dX12_read_0 rfl rfl ?_
  first | refine x_aload_n 0 dX12_read_1 rfl rfl ?_ | refine x_aload_nN 0 dX12_read_1 rfl rfl ?_
  refine x_get fX12_216 rfl dX12_read_2 (by with_reducible repeat first | assumption | exact mH_0 ok | exact mH_1 | exact hset_s | refine mH_o (by first | assumption | exact nA ok (by omega) (by omega) (by omega)) (by first | assumption | exact nA ok (by omega) (by omega) (by omega)) ?_ | refine hget_n (by first | assumption | exact Ne.symm (by assumption) | exact nA ok (by omega) (by omega) (by omega)) ?_) (by rfl) ?_
  refine x_mput ok fX12_245 rfl rfl rfl rfl dX12_read_5 (by exact ble rfl) ?_
  first | refine x_aload_n 0 dX12_read_8 rfl rfl ?_ | refine x_aload_nN 0 dX12_read_8 rfl rfl ?_
  refine x_iconst (v := 0) dX12_read_9 rfl ?_
  refine x_mput ok fX12_216 rfl rfl rfl rfl dX12_read_10 (by exact ble rfl) ?_
  refine x_eqH (h' := mH G h (eMd G sv rem 0 err lin why wha beh its (nI tx.length) att wro tol) N) rfl ?_
  first | refine x_aload_n 0 dX12_read_13 rfl rfl ?_ | refine x_aload_nN 0 dX12_read_13 rfl rfl ?_
  refine x_callW (mc1 := 0) (ms1 := 0) (As := []) (ct_readsAll_n ok htext hT h60 h30 h31 F) vX12_270 rfl (x_recv (by with_reducible repeat first | assumption | exact mH_0 ok | exact mH_1 | exact hset_s | refine mH_o (by first | assumption | exact nA ok (by omega) (by omega) (by omega)) (by first | assumption | exact nA ok (by omega) (by omega) (by omega)) ?_ | refine hget_n (by first | assumption | exact Ne.symm (by assumption) | exact nA ok (by omega) (by omega) (by omega)) ?_) rfl) rfl ⟨ble rfl, ble rfl⟩ (ble rfl) dX12_read_14 rfl ⟨by omega, by omega⟩ (fun w h1 q1 => ?_)
  obtain ⟨rfl, kd1, nb1, att1, tol1, rfl⟩ := q1
  first | refine x_aload_n 0 dX12_read_17 rfl rfl ?_ | refine x_aload_nN 0 dX12_read_17 rfl rfl ?_
  refine x_get fX12_248 rfl dX12_read_18 (by with_reducible repeat first | assumption | exact mH_0 ok | exact mH_1 | exact hset_s | refine mH_o (by first | assumption | exact nA ok (by omega) (by omega) (by omega)) (by first | assumption | exact nA ok (by omega) (by omega) (by omega)) ?_ | refine hget_n (by first | assumption | exact Ne.symm (by assumption) | exact nA ok (by omega) (by omega) (by omega)) ?_) (by rfl) ?_
  refine x_iconst (v := -1) dX12_read_21 rfl ?_
  refine x_icmp_eq 36 dX12_read_22 (by decide) (fun z => by first | exact absurd z (hnp) | exact absurd (hnp) z) (fun _ => ?_)
  first | refine x_aload_n 0 dX12_read_25 rfl rfl ?_ | refine x_aload_nN 0 dX12_read_25 rfl rfl ?_
  first | refine x_aload_n 0 dX12_read_26 rfl rfl ?_ | refine x_aload_nN 0 dX12_read_26 rfl rfl ?_
  refine x_get fX12_248 rfl dX12_read_27 (by with_reducible repeat first | assumption | exact mH_0 ok | exact mH_1 | exact hset_s | refine mH_o (by first | assumption | exact nA ok (by omega) (by omega) (by omega)) (by first | assumption | exact nA ok (by omega) (by omega) (by omega)) ?_ | refine hget_n (by first | assumption | exact Ne.symm (by assumption) | exact nA ok (by omega) (by omega) (by omega)) ?_) (by rfl) ?_
  refine x_mput ok fX12_31 rfl rfl rfl rfl dX12_read_30 (by exact ble rfl) ?_
  refine x_bipush (v := -2) dX12_read_33 rfl ?_
  refine x_iret rfl dX12_read_35 ?_
  exact ⟨rfl, _, _, _, _, rfl⟩
