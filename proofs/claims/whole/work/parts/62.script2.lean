set_option maxRecDepth 100000 in
set_option maxHeartbeats 1000000 in
theorem ct_scSize {l : Launch} {G : Gl} {h : Hp} {cn att : Int32} (hs : h (Ad G 9) = some (eSc G cn att)) : CtR l G mX6_size 1 [.ref (Ad G 9)] h (some (.int cn)) (h) := by
  refine Ct.of (L := [(0, _)]) (by decide) (ble rfl) rfl ?_
  first | refine x_aload_n 0 dX6_size_0 rfl rfl ?_ | refine x_aload_nN 0 dX6_size_0 rfl rfl ?_
  refine x_get fX6_31 rfl dX6_size_1 (by with_reducible repeat first | assumption | exact hset_s | refine hget_n (by first | assumption | exact Ne.symm (by assumption) | exact nA ok (by omega) (by omega) (by omega)) ?_) (by rfl) ?_
  refine x_iret rfl dX6_size_4 ?_
  exact ⟨rfl, rfl⟩
set_option maxRecDepth 100000 in
set_option maxHeartbeats 1000000 in
theorem ct_scReached {l : Launch} {G : Gl} {h : Hp} {cn att : Int32} (hs : h (Ad G 9) = some (eSc G cn att)) : CtR l G mX6_reached 1 [.ref (Ad G 9)] h (some (.int att)) (h) := by
  refine Ct.of (L := [(0, _)]) (by decide) (ble rfl) rfl ?_
  first | refine x_aload_n 0 dX6_reached_0 rfl rfl ?_ | refine x_aload_nN 0 dX6_reached_0 rfl rfl ?_
  refine x_get fX6_35 rfl dX6_reached_1 (by with_reducible repeat first | assumption | exact hset_s | refine hget_n (by first | assumption | exact Ne.symm (by assumption) | exact nA ok (by omega) (by omega) (by omega)) ?_) (by rfl) ?_
  refine x_iret rfl dX6_reached_4 ?_
  exact ⟨rfl, rfl⟩
set_option maxRecDepth 100000 in
set_option maxHeartbeats 1000000 in
theorem ct_scEmpty {l : Launch} {G : Gl} {h : Hp} {cn att : Int32} (ok : Ok G) (hs : h (Ad G 9) = some (eSc G cn att)) {tx : List Int32} {b : Nat} (T : SBT G h (Ad G 10) tx b) : Ct l G mX6_empty 6 (0) (0) [.ref (Ad G 9)] h (fun w h' => w = none ∧ SBT G h' (Ad G 10) [] b ∧ Fr (fun x => x = Ad G 10) h h') := by
  obtain ⟨e10, hT10⟩ := T.at0
  refine Ct.of (L := [(0, _)]) (by decide) (ble rfl) rfl ?_
  first | refine x_aload_n 0 dX6_empty_0 rfl rfl ?_ | refine x_aload_nN 0 dX6_empty_0 rfl rfl ?_
  refine x_get fX6_12 rfl dX6_empty_1 (by with_reducible repeat first | assumption | exact hset_s | refine hget_n (by first | assumption | exact Ne.symm (by assumption) | exact nA ok (by omega) (by omega) (by omega)) ?_) (by rfl) ?_
  refine x_iconst (v := 0) dX6_empty_4 rfl ?_
  refine x_pV0 (mc1 := 0) (ms1 := 0) (As := [.int _]) (ct_sl4 T (aA ok (by omega))) vX6_46 rfl (x_recv (by with_reducible repeat first | assumption | exact hset_s | refine hget_n (by first | assumption | exact Ne.symm (by assumption) | exact nA ok (by omega) (by omega) (by omega)) ?_) rfl) rfl ⟨ble rfl, ble rfl⟩ (ble rfl) dX6_empty_5 rfl ⟨by omega, by omega⟩ (fun h5 q5 => ?_)
  refine x_vret rfl dX6_empty_8 ?_
  exact ⟨rfl, q5⟩
set_option maxRecDepth 100000 in
set_option maxHeartbeats 1000000 in
theorem ct_isRight_y {l : Launch} {G : Gl} {h : Hp} (ok : Ok G) {cn0 a0 : Nat} {vf : Nat → Option Nat} {ff sf : Nat → Int32} (hs : h (Ad G 9) = some (eSc G (nI cn0) (nI a0))) (h11 : h (Ad G 11) = some (eR G 7 10 vf)) (h12 : h (Ad G 12) = some (eI G 10 ff)) (h13 : h (Ad G 13) = some (eI G 10 sf)) {tx : List Int32} (hA : Asc tx) (h60 : tx.length ≤ 60) {b : Nat} (hbn : ∀ i, nmU i → Ad G i ≠ b) (T : SBT G h (Ad G 10) tx b) {C0 : CmL} (Tx : Txt tx 0 C0) : Ct l G mX6_isRight 12 (0) (0) [.ref (Ad G 9)] h (fun w h' => w = some (.int 1) ∧ ∃ (vf : Nat → Option Nat) (ff sf : Nat → Int32) (cn at' : Nat), (h' (Ad G 9) = some (eSc G (nI (cn)) (nI (at'))) ∧ h' (Ad G 11) = some (eR G 7 10 vf) ∧ h' (Ad G 12) = some (eI G 10 ff) ∧ h' (Ad G 13) = some (eI G 10 sf)) ∧ TcF G h h' ∧ cn = C0.length ∧ (∀ q, q < C0.length → ∀ c, C0[q]? = some c → vf q = some (G.2.2.2 (3 + c.1)) ∧ ff q = c.2.1 ∧ sf q = c.2.2)) := by
  have hl := Txt.le C0 0 Tx
  refine Ct.of (L := [(0, _)]) (by decide) (ble rfl) rfl ?_
  first | refine x_aload_n 0 dX6_isRight_0 rfl rfl ?_ | refine x_aload_nN 0 dX6_isRight_0 rfl rfl ?_
  refine x_iconst (v := 0) dX6_isRight_1 rfl ?_
  refine x_put fX6_35 rfl rfl rfl rfl dX6_isRight_2 (by with_reducible repeat first | assumption | exact hset_s | refine hget_n (by first | assumption | exact Ne.symm (by assumption) | exact nA ok (by omega) (by omega) (by omega)) ?_) (by exact ble rfl) (by first | assumption | exact aA (by assumption) (by omega)) ?_
  refine x_eqH (h' := hset h (Ad G 9) (eSc G (nI cn0) (nI 0))) rfl ?_
  refine x_iconst (v := 0) dX6_isRight_5 rfl ?_
  refine x_istore_n (L' := [(1, _), (0, _)]) dX6_isRight_6 rfl (ble rfl) rfl ?_
  exact isR_y ok hA h60 hbn C0 0 0 cn0 vf ff sf _ rfl ⟨hset_s, hget_n (Ne.symm (nA ok (show 9 < 3000 by omega) (show 11 < 3000 by omega) (by omega))) h11, hget_n (Ne.symm (nA ok (show 9 < 3000 by omega) (show 12 < 3000 by omega) (by omega))) h12, hget_n (Ne.symm (nA ok (show 9 < 3000 by omega) (show 13 < 3000 by omega) (by omega))) h13⟩ (T.s9 ok _) (Fr.rf.st (Or.inl rfl)) (fun q hq => absurd hq (by omega)) Tx (by omega)
set_option maxRecDepth 100000 in
set_option maxHeartbeats 1000000 in
theorem ct_isRight_n {l : Launch} {G : Gl} {h : Hp} (ok : Ok G) {cn0 a0 : Nat} {vf : Nat → Option Nat} {ff sf : Nat → Int32} (hs : h (Ad G 9) = some (eSc G (nI cn0) (nI a0))) (h11 : h (Ad G 11) = some (eR G 7 10 vf)) (h12 : h (Ad G 12) = some (eI G 10 ff)) (h13 : h (Ad G 13) = some (eI G 10 sf)) {tx : List Int32} (hA : Asc tx) (h60 : tx.length ≤ 60) {b : Nat} (hbn : ∀ i, nmU i → Ad G i ≠ b) (T : SBT G h (Ad G 10) tx b) {p k : Nat} (Tx : TxF tx p 0 k) : Ct l G mX6_isRight 12 (0) (0) [.ref (Ad G 9)] h (fun w h' => w = some (.int 0) ∧ ∃ (vf : Nat → Option Nat) (ff sf : Nat → Int32) (cn at' : Nat), (h' (Ad G 9) = some (eSc G (nI (cn)) (nI (at'))) ∧ h' (Ad G 11) = some (eR G 7 10 vf) ∧ h' (Ad G 12) = some (eI G 10 ff) ∧ h' (Ad G 13) = some (eI G 10 sf)) ∧ TcF G h h' ∧ at' = p) := by
  have hl := TxF.le k 0 Tx (by omega)
  refine Ct.of (L := [(0, _)]) (by decide) (ble rfl) rfl ?_
  first | refine x_aload_n 0 dX6_isRight_0 rfl rfl ?_ | refine x_aload_nN 0 dX6_isRight_0 rfl rfl ?_
  refine x_iconst (v := 0) dX6_isRight_1 rfl ?_
  refine x_put fX6_35 rfl rfl rfl rfl dX6_isRight_2 (by with_reducible repeat first | assumption | exact hset_s | refine hget_n (by first | assumption | exact Ne.symm (by assumption) | exact nA ok (by omega) (by omega) (by omega)) ?_) (by exact ble rfl) (by first | assumption | exact aA (by assumption) (by omega)) ?_
  refine x_eqH (h' := hset h (Ad G 9) (eSc G (nI cn0) (nI 0))) rfl ?_
  refine x_iconst (v := 0) dX6_isRight_5 rfl ?_
  refine x_istore_n (L' := [(1, _), (0, _)]) dX6_isRight_6 rfl (ble rfl) rfl ?_
  exact isR_n ok hA h60 hbn k 0 0 cn0 vf ff sf _ ⟨hset_s, hget_n (Ne.symm (nA ok (show 9 < 3000 by omega) (show 11 < 3000 by omega) (by omega))) h11, hget_n (Ne.symm (nA ok (show 9 < 3000 by omega) (show 12 < 3000 by omega) (by omega))) h12, hget_n (Ne.symm (nA ok (show 9 < 3000 by omega) (show 13 < 3000 by omega) (by omega))) h13⟩ (T.s9 ok _) (Fr.rf.st (Or.inl rfl)) Tx (by omega) (by omega)
