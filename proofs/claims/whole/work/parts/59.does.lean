/-- a command's deed -/
def pDo (N : Nat → Int32) (c : Nat × Int32 × Int32) : Out := if c.1 = 0 then pRaise N c.2.1 c.2.2 else if c.1 = 1 then pHit N c.2.1 c.2.2 else if c.1 = 2 then pTin N c.2.1 c.2.2 else if c.1 = 3 then pCook N c.2.1 c.2.2 else if c.1 = 4 then pSell N c.2.1 c.2.2 else pBars N c.2.1
set_option maxRecDepth 100000 in
set_option maxHeartbeats 1000000 in
theorem ct_does_0 {l : Launch} {G : Gl} {h : Hp} {sv rem typ err lin wha its siz att wro tol : Int32} {N : Nat → Int32} (ok : Ok G) {ns np no : Nat} (A : RowA N ns np no) {kd nb : Nat → Int32} (h30 : h (Ad G 30) = some (eI G 16 kd)) (h31 : h (Ad G 31) = some (eI G 32 nb)) {ci : Nat} (hci : ci < 16) {f s : Int32} (hk : kd ci = nI 5) (hf : nb (2 * ci) = f) (hs : nb (2 * ci + 1) = s) : Ct l G mX12_does 7 (0) (0) [.ref (Ad G 20), .int (nI ci)] (mH G h (eMd G sv rem typ err lin 0 wha 0 its siz att wro tol) N) (fun w h' => ∃ r why' wha' beh' its' N', w = some (.int r) ∧ h' = mH G h (eMd G sv rem typ err lin why' wha' beh' its' siz att wro tol) N' ∧ DeedR (pRaise N f s) r why' wha' beh' its' N') := by
  refine Ct.of (L := [(0, _), (1, _)]) (by decide) (ble rfl) rfl ?_
  first | refine x_aload_n 0 dX12_does_0 rfl rfl ?_ | refine x_aload_nN 0 dX12_does_0 rfl rfl ?_
  refine x_get fX12_45 rfl dX12_does_1 (by with_reducible repeat first | assumption | exact mH_0 ok | exact mH_1 | exact hset_s | refine mH_o (by first | assumption | exact nA ok (by omega) (by omega) (by omega)) (by first | assumption | exact nA ok (by omega) (by omega) (by omega)) ?_ | refine hget_n (by first | assumption | exact Ne.symm (by assumption) | exact nA ok (by omega) (by omega) (by omega)) ?_) (by rfl) ?_
  refine x_iconst (v := 2) dX12_does_4 rfl ?_
  refine x_iload_n 1 dX12_does_5 rfl rfl ?_
  refine x_imul dX12_does_6 ?_
  rw [show (2 : Int32) = nI 2 from rfl, pk_mul]
  refine x_ialdn dX12_does_7 (by with_reducible repeat first | assumption | exact mH_0 ok | exact mH_1 | exact hset_s | refine mH_o (by first | assumption | exact nA ok (by omega) (by omega) (by omega)) (by first | assumption | exact nA ok (by omega) (by omega) (by omega)) ?_ | refine hget_n (by first | assumption | exact Ne.symm (by assumption) | exact nA ok (by omega) (by omega) (by omega)) ?_) (by omega) (by first | decide | omega) ?_
  rw [hf]
  refine x_istore_n (L' := [(2, _), (0, _), (1, _)]) dX12_does_8 rfl (ble rfl) rfl ?_
  first | refine x_aload_n 1 dX12_does_9 rfl rfl ?_ | refine x_aload_nN 1 dX12_does_9 rfl rfl ?_
  refine x_get fX12_45 rfl dX12_does_10 (by with_reducible repeat first | assumption | exact mH_0 ok | exact mH_1 | exact hset_s | refine mH_o (by first | assumption | exact nA ok (by omega) (by omega) (by omega)) (by first | assumption | exact nA ok (by omega) (by omega) (by omega)) ?_ | refine hget_n (by first | assumption | exact Ne.symm (by assumption) | exact nA ok (by omega) (by omega) (by omega)) ?_) (by rfl) ?_
  refine x_iconst (v := 2) dX12_does_13 rfl ?_
  refine x_iload_n 2 dX12_does_14 rfl rfl ?_
  refine x_imul dX12_does_15 ?_
  rw [show (2 : Int32) = nI 2 from rfl, pk_mul]
  refine x_iconst (v := 1) dX12_does_16 rfl ?_
  refine x_iadd dX12_does_17 ?_
  rw [nI_1]
  refine x_ialdn dX12_does_18 (by with_reducible repeat first | assumption | exact mH_0 ok | exact mH_1 | exact hset_s | refine mH_o (by first | assumption | exact nA ok (by omega) (by omega) (by omega)) (by first | assumption | exact nA ok (by omega) (by omega) (by omega)) ?_ | refine hget_n (by first | assumption | exact Ne.symm (by assumption) | exact nA ok (by omega) (by omega) (by omega)) ?_) (by omega) (by first | decide | omega) ?_
  rw [hs]
  refine x_istore_n (L' := [(3, _), (2, _), (0, _), (1, _)]) dX12_does_19 rfl (ble rfl) rfl ?_
  first | refine x_aload_n 2 dX12_does_20 rfl rfl ?_ | refine x_aload_nN 2 dX12_does_20 rfl rfl ?_
  refine x_get fX12_42 rfl dX12_does_21 (by with_reducible repeat first | assumption | exact mH_0 ok | exact mH_1 | exact hset_s | refine mH_o (by first | assumption | exact nA ok (by omega) (by omega) (by omega)) (by first | assumption | exact nA ok (by omega) (by omega) (by omega)) ?_ | refine hget_n (by first | assumption | exact Ne.symm (by assumption) | exact nA ok (by omega) (by omega) (by omega)) ?_) (by rfl) ?_
  refine x_iload_n 3 dX12_does_24 rfl rfl ?_
  refine x_ialdn dX12_does_25 (by with_reducible repeat first | assumption | exact mH_0 ok | exact mH_1 | exact hset_s | refine mH_o (by first | assumption | exact nA ok (by omega) (by omega) (by omega)) (by first | assumption | exact nA ok (by omega) (by omega) (by omega)) ?_ | refine hget_n (by first | assumption | exact Ne.symm (by assumption) | exact nA ok (by omega) (by omega) (by omega)) ?_) (by omega) (by first | decide | omega) ?_
  rw [hk]
  refine x_tableIn 60 dX12_does_26 (by decide) (by decide) (by rfl) (by decide) ?_
  first | refine x_aload_n 2 dX12_does_60 rfl rfl ?_ | refine x_aload_nN 2 dX12_does_60 rfl rfl ?_
  refine x_iload_n 1 dX12_does_61 rfl rfl ?_
  refine x_iload_n 0 dX12_does_62 rfl rfl ?_
  refine x_callW (mc1 := 0) (ms1 := 0) (As := [.int _, .int _]) (ct_dRaise ok A _ _) vX12_126 rfl (x_recv (by with_reducible repeat first | assumption | exact mH_0 ok | exact mH_1 | exact hset_s | refine mH_o (by first | assumption | exact nA ok (by omega) (by omega) (by omega)) (by first | assumption | exact nA ok (by omega) (by omega) (by omega)) ?_ | refine hget_n (by first | assumption | exact Ne.symm (by assumption) | exact nA ok (by omega) (by omega) (by omega)) ?_) rfl) rfl ⟨ble rfl, ble rfl⟩ (ble rfl) dX12_does_63 rfl ⟨by omega, by omega⟩ (fun w h9 q9 => ?_)
  obtain ⟨r, why1, wha1, beh1, its1, N1, rfl, rfl, D⟩ := q9
  refine x_iret rfl dX12_does_66 ?_
  exact ⟨_, _, _, _, _, _, rfl, rfl, D⟩
set_option maxRecDepth 100000 in
set_option maxHeartbeats 1000000 in
theorem ct_does_1 {l : Launch} {G : Gl} {h : Hp} {sv rem typ err lin wha its siz att wro tol : Int32} {N : Nat → Int32} (ok : Ok G) {ns np no : Nat} (A : RowA N ns np no) {kd nb : Nat → Int32} (h30 : h (Ad G 30) = some (eI G 16 kd)) (h31 : h (Ad G 31) = some (eI G 32 nb)) {ci : Nat} (hci : ci < 16) {f s : Int32} (hk : kd ci = nI 6) (hf : nb (2 * ci) = f) (hs : nb (2 * ci + 1) = s) : Ct l G mX12_does 7 (0) (0) [.ref (Ad G 20), .int (nI ci)] (mH G h (eMd G sv rem typ err lin 0 wha 0 its siz att wro tol) N) (fun w h' => ∃ r why' wha' beh' its' N', w = some (.int r) ∧ h' = mH G h (eMd G sv rem typ err lin why' wha' beh' its' siz att wro tol) N' ∧ DeedR (pHit N f s) r why' wha' beh' its' N') := by
  refine Ct.of (L := [(0, _), (1, _)]) (by decide) (ble rfl) rfl ?_
  first | refine x_aload_n 0 dX12_does_0 rfl rfl ?_ | refine x_aload_nN 0 dX12_does_0 rfl rfl ?_
  refine x_get fX12_45 rfl dX12_does_1 (by with_reducible repeat first | assumption | exact mH_0 ok | exact mH_1 | exact hset_s | refine mH_o (by first | assumption | exact nA ok (by omega) (by omega) (by omega)) (by first | assumption | exact nA ok (by omega) (by omega) (by omega)) ?_ | refine hget_n (by first | assumption | exact Ne.symm (by assumption) | exact nA ok (by omega) (by omega) (by omega)) ?_) (by rfl) ?_
  refine x_iconst (v := 2) dX12_does_4 rfl ?_
  refine x_iload_n 1 dX12_does_5 rfl rfl ?_
  refine x_imul dX12_does_6 ?_
  rw [show (2 : Int32) = nI 2 from rfl, pk_mul]
  refine x_ialdn dX12_does_7 (by with_reducible repeat first | assumption | exact mH_0 ok | exact mH_1 | exact hset_s | refine mH_o (by first | assumption | exact nA ok (by omega) (by omega) (by omega)) (by first | assumption | exact nA ok (by omega) (by omega) (by omega)) ?_ | refine hget_n (by first | assumption | exact Ne.symm (by assumption) | exact nA ok (by omega) (by omega) (by omega)) ?_) (by omega) (by first | decide | omega) ?_
  rw [hf]
  refine x_istore_n (L' := [(2, _), (0, _), (1, _)]) dX12_does_8 rfl (ble rfl) rfl ?_
  first | refine x_aload_n 1 dX12_does_9 rfl rfl ?_ | refine x_aload_nN 1 dX12_does_9 rfl rfl ?_
  refine x_get fX12_45 rfl dX12_does_10 (by with_reducible repeat first | assumption | exact mH_0 ok | exact mH_1 | exact hset_s | refine mH_o (by first | assumption | exact nA ok (by omega) (by omega) (by omega)) (by first | assumption | exact nA ok (by omega) (by omega) (by omega)) ?_ | refine hget_n (by first | assumption | exact Ne.symm (by assumption) | exact nA ok (by omega) (by omega) (by omega)) ?_) (by rfl) ?_
  refine x_iconst (v := 2) dX12_does_13 rfl ?_
  refine x_iload_n 2 dX12_does_14 rfl rfl ?_
  refine x_imul dX12_does_15 ?_
  rw [show (2 : Int32) = nI 2 from rfl, pk_mul]
  refine x_iconst (v := 1) dX12_does_16 rfl ?_
  refine x_iadd dX12_does_17 ?_
  rw [nI_1]
  refine x_ialdn dX12_does_18 (by with_reducible repeat first | assumption | exact mH_0 ok | exact mH_1 | exact hset_s | refine mH_o (by first | assumption | exact nA ok (by omega) (by omega) (by omega)) (by first | assumption | exact nA ok (by omega) (by omega) (by omega)) ?_ | refine hget_n (by first | assumption | exact Ne.symm (by assumption) | exact nA ok (by omega) (by omega) (by omega)) ?_) (by omega) (by first | decide | omega) ?_
  rw [hs]
  refine x_istore_n (L' := [(3, _), (2, _), (0, _), (1, _)]) dX12_does_19 rfl (ble rfl) rfl ?_
  first | refine x_aload_n 2 dX12_does_20 rfl rfl ?_ | refine x_aload_nN 2 dX12_does_20 rfl rfl ?_
  refine x_get fX12_42 rfl dX12_does_21 (by with_reducible repeat first | assumption | exact mH_0 ok | exact mH_1 | exact hset_s | refine mH_o (by first | assumption | exact nA ok (by omega) (by omega) (by omega)) (by first | assumption | exact nA ok (by omega) (by omega) (by omega)) ?_ | refine hget_n (by first | assumption | exact Ne.symm (by assumption) | exact nA ok (by omega) (by omega) (by omega)) ?_) (by rfl) ?_
  refine x_iload_n 3 dX12_does_24 rfl rfl ?_
  refine x_ialdn dX12_does_25 (by with_reducible repeat first | assumption | exact mH_0 ok | exact mH_1 | exact hset_s | refine mH_o (by first | assumption | exact nA ok (by omega) (by omega) (by omega)) (by first | assumption | exact nA ok (by omega) (by omega) (by omega)) ?_ | refine hget_n (by first | assumption | exact Ne.symm (by assumption) | exact nA ok (by omega) (by omega) (by omega)) ?_) (by omega) (by first | decide | omega) ?_
  rw [hk]
  refine x_tableIn 67 dX12_does_26 (by decide) (by decide) (by rfl) (by decide) ?_
  first | refine x_aload_n 2 dX12_does_67 rfl rfl ?_ | refine x_aload_nN 2 dX12_does_67 rfl rfl ?_
  refine x_iload_n 1 dX12_does_68 rfl rfl ?_
  refine x_iload_n 0 dX12_does_69 rfl rfl ?_
  refine x_callW (mc1 := 0) (ms1 := 0) (As := [.int _, .int _]) (ct_dHit ok A _ _) vX12_138 rfl (x_recv (by with_reducible repeat first | assumption | exact mH_0 ok | exact mH_1 | exact hset_s | refine mH_o (by first | assumption | exact nA ok (by omega) (by omega) (by omega)) (by first | assumption | exact nA ok (by omega) (by omega) (by omega)) ?_ | refine hget_n (by first | assumption | exact Ne.symm (by assumption) | exact nA ok (by omega) (by omega) (by omega)) ?_) rfl) rfl ⟨ble rfl, ble rfl⟩ (ble rfl) dX12_does_70 rfl ⟨by omega, by omega⟩ (fun w h9 q9 => ?_)
  obtain ⟨r, why1, wha1, beh1, its1, N1, rfl, rfl, D⟩ := q9
  refine x_iret rfl dX12_does_73 ?_
  exact ⟨_, _, _, _, _, _, rfl, rfl, D⟩
set_option maxRecDepth 100000 in
set_option maxHeartbeats 1000000 in
theorem ct_does_2 {l : Launch} {G : Gl} {h : Hp} {sv rem typ err lin wha its siz att wro tol : Int32} {N : Nat → Int32} (ok : Ok G) {ns np no : Nat} (A : RowA N ns np no) {kd nb : Nat → Int32} (h30 : h (Ad G 30) = some (eI G 16 kd)) (h31 : h (Ad G 31) = some (eI G 32 nb)) {ci : Nat} (hci : ci < 16) {f s : Int32} (hk : kd ci = nI 7) (hf : nb (2 * ci) = f) (hs : nb (2 * ci + 1) = s) : Ct l G mX12_does 7 (0) (0) [.ref (Ad G 20), .int (nI ci)] (mH G h (eMd G sv rem typ err lin 0 wha 0 its siz att wro tol) N) (fun w h' => ∃ r why' wha' beh' its' N', w = some (.int r) ∧ h' = mH G h (eMd G sv rem typ err lin why' wha' beh' its' siz att wro tol) N' ∧ DeedR (pTin N f s) r why' wha' beh' its' N') := by
  refine Ct.of (L := [(0, _), (1, _)]) (by decide) (ble rfl) rfl ?_
  first | refine x_aload_n 0 dX12_does_0 rfl rfl ?_ | refine x_aload_nN 0 dX12_does_0 rfl rfl ?_
  refine x_get fX12_45 rfl dX12_does_1 (by with_reducible repeat first | assumption | exact mH_0 ok | exact mH_1 | exact hset_s | refine mH_o (by first | assumption | exact nA ok (by omega) (by omega) (by omega)) (by first | assumption | exact nA ok (by omega) (by omega) (by omega)) ?_ | refine hget_n (by first | assumption | exact Ne.symm (by assumption) | exact nA ok (by omega) (by omega) (by omega)) ?_) (by rfl) ?_
  refine x_iconst (v := 2) dX12_does_4 rfl ?_
  refine x_iload_n 1 dX12_does_5 rfl rfl ?_
  refine x_imul dX12_does_6 ?_
  rw [show (2 : Int32) = nI 2 from rfl, pk_mul]
  refine x_ialdn dX12_does_7 (by with_reducible repeat first | assumption | exact mH_0 ok | exact mH_1 | exact hset_s | refine mH_o (by first | assumption | exact nA ok (by omega) (by omega) (by omega)) (by first | assumption | exact nA ok (by omega) (by omega) (by omega)) ?_ | refine hget_n (by first | assumption | exact Ne.symm (by assumption) | exact nA ok (by omega) (by omega) (by omega)) ?_) (by omega) (by first | decide | omega) ?_
  rw [hf]
  refine x_istore_n (L' := [(2, _), (0, _), (1, _)]) dX12_does_8 rfl (ble rfl) rfl ?_
  first | refine x_aload_n 1 dX12_does_9 rfl rfl ?_ | refine x_aload_nN 1 dX12_does_9 rfl rfl ?_
  refine x_get fX12_45 rfl dX12_does_10 (by with_reducible repeat first | assumption | exact mH_0 ok | exact mH_1 | exact hset_s | refine mH_o (by first | assumption | exact nA ok (by omega) (by omega) (by omega)) (by first | assumption | exact nA ok (by omega) (by omega) (by omega)) ?_ | refine hget_n (by first | assumption | exact Ne.symm (by assumption) | exact nA ok (by omega) (by omega) (by omega)) ?_) (by rfl) ?_
  refine x_iconst (v := 2) dX12_does_13 rfl ?_
  refine x_iload_n 2 dX12_does_14 rfl rfl ?_
  refine x_imul dX12_does_15 ?_
  rw [show (2 : Int32) = nI 2 from rfl, pk_mul]
  refine x_iconst (v := 1) dX12_does_16 rfl ?_
  refine x_iadd dX12_does_17 ?_
  rw [nI_1]
  refine x_ialdn dX12_does_18 (by with_reducible repeat first | assumption | exact mH_0 ok | exact mH_1 | exact hset_s | refine mH_o (by first | assumption | exact nA ok (by omega) (by omega) (by omega)) (by first | assumption | exact nA ok (by omega) (by omega) (by omega)) ?_ | refine hget_n (by first | assumption | exact Ne.symm (by assumption) | exact nA ok (by omega) (by omega) (by omega)) ?_) (by omega) (by first | decide | omega) ?_
  rw [hs]
  refine x_istore_n (L' := [(3, _), (2, _), (0, _), (1, _)]) dX12_does_19 rfl (ble rfl) rfl ?_
  first | refine x_aload_n 2 dX12_does_20 rfl rfl ?_ | refine x_aload_nN 2 dX12_does_20 rfl rfl ?_
  refine x_get fX12_42 rfl dX12_does_21 (by with_reducible repeat first | assumption | exact mH_0 ok | exact mH_1 | exact hset_s | refine mH_o (by first | assumption | exact nA ok (by omega) (by omega) (by omega)) (by first | assumption | exact nA ok (by omega) (by omega) (by omega)) ?_ | refine hget_n (by first | assumption | exact Ne.symm (by assumption) | exact nA ok (by omega) (by omega) (by omega)) ?_) (by rfl) ?_
  refine x_iload_n 3 dX12_does_24 rfl rfl ?_
  refine x_ialdn dX12_does_25 (by with_reducible repeat first | assumption | exact mH_0 ok | exact mH_1 | exact hset_s | refine mH_o (by first | assumption | exact nA ok (by omega) (by omega) (by omega)) (by first | assumption | exact nA ok (by omega) (by omega) (by omega)) ?_ | refine hget_n (by first | assumption | exact Ne.symm (by assumption) | exact nA ok (by omega) (by omega) (by omega)) ?_) (by omega) (by first | decide | omega) ?_
  rw [hk]
  refine x_tableIn 74 dX12_does_26 (by decide) (by decide) (by rfl) (by decide) ?_
  first | refine x_aload_n 2 dX12_does_74 rfl rfl ?_ | refine x_aload_nN 2 dX12_does_74 rfl rfl ?_
  refine x_iload_n 1 dX12_does_75 rfl rfl ?_
  refine x_iload_n 0 dX12_does_76 rfl rfl ?_
  refine x_callW (mc1 := 0) (ms1 := 0) (As := [.int _, .int _]) (ct_dTin ok A _ _) vX12_150 rfl (x_recv (by with_reducible repeat first | assumption | exact mH_0 ok | exact mH_1 | exact hset_s | refine mH_o (by first | assumption | exact nA ok (by omega) (by omega) (by omega)) (by first | assumption | exact nA ok (by omega) (by omega) (by omega)) ?_ | refine hget_n (by first | assumption | exact Ne.symm (by assumption) | exact nA ok (by omega) (by omega) (by omega)) ?_) rfl) rfl ⟨ble rfl, ble rfl⟩ (ble rfl) dX12_does_77 rfl ⟨by omega, by omega⟩ (fun w h9 q9 => ?_)
  obtain ⟨r, why1, wha1, beh1, its1, N1, rfl, rfl, D⟩ := q9
  refine x_iret rfl dX12_does_80 ?_
  exact ⟨_, _, _, _, _, _, rfl, rfl, D⟩
set_option maxRecDepth 100000 in
set_option maxHeartbeats 1000000 in
theorem ct_does_3 {l : Launch} {G : Gl} {h : Hp} {sv rem typ err lin wha its siz att wro tol : Int32} {N : Nat → Int32} (ok : Ok G) {ns np no : Nat} (A : RowA N ns np no) {kd nb : Nat → Int32} (h30 : h (Ad G 30) = some (eI G 16 kd)) (h31 : h (Ad G 31) = some (eI G 32 nb)) {ci : Nat} (hci : ci < 16) {f s : Int32} (hk : kd ci = nI 8) (hf : nb (2 * ci) = f) (hs : nb (2 * ci + 1) = s) : Ct l G mX12_does 7 (0) (0) [.ref (Ad G 20), .int (nI ci)] (mH G h (eMd G sv rem typ err lin 0 wha 0 its siz att wro tol) N) (fun w h' => ∃ r why' wha' beh' its' N', w = some (.int r) ∧ h' = mH G h (eMd G sv rem typ err lin why' wha' beh' its' siz att wro tol) N' ∧ DeedR (pCook N f s) r why' wha' beh' its' N') := by
  refine Ct.of (L := [(0, _), (1, _)]) (by decide) (ble rfl) rfl ?_
  first | refine x_aload_n 0 dX12_does_0 rfl rfl ?_ | refine x_aload_nN 0 dX12_does_0 rfl rfl ?_
  refine x_get fX12_45 rfl dX12_does_1 (by with_reducible repeat first | assumption | exact mH_0 ok | exact mH_1 | exact hset_s | refine mH_o (by first | assumption | exact nA ok (by omega) (by omega) (by omega)) (by first | assumption | exact nA ok (by omega) (by omega) (by omega)) ?_ | refine hget_n (by first | assumption | exact Ne.symm (by assumption) | exact nA ok (by omega) (by omega) (by omega)) ?_) (by rfl) ?_
  refine x_iconst (v := 2) dX12_does_4 rfl ?_
  refine x_iload_n 1 dX12_does_5 rfl rfl ?_
  refine x_imul dX12_does_6 ?_
  rw [show (2 : Int32) = nI 2 from rfl, pk_mul]
  refine x_ialdn dX12_does_7 (by with_reducible repeat first | assumption | exact mH_0 ok | exact mH_1 | exact hset_s | refine mH_o (by first | assumption | exact nA ok (by omega) (by omega) (by omega)) (by first | assumption | exact nA ok (by omega) (by omega) (by omega)) ?_ | refine hget_n (by first | assumption | exact Ne.symm (by assumption) | exact nA ok (by omega) (by omega) (by omega)) ?_) (by omega) (by first | decide | omega) ?_
  rw [hf]
  refine x_istore_n (L' := [(2, _), (0, _), (1, _)]) dX12_does_8 rfl (ble rfl) rfl ?_
  first | refine x_aload_n 1 dX12_does_9 rfl rfl ?_ | refine x_aload_nN 1 dX12_does_9 rfl rfl ?_
  refine x_get fX12_45 rfl dX12_does_10 (by with_reducible repeat first | assumption | exact mH_0 ok | exact mH_1 | exact hset_s | refine mH_o (by first | assumption | exact nA ok (by omega) (by omega) (by omega)) (by first | assumption | exact nA ok (by omega) (by omega) (by omega)) ?_ | refine hget_n (by first | assumption | exact Ne.symm (by assumption) | exact nA ok (by omega) (by omega) (by omega)) ?_) (by rfl) ?_
  refine x_iconst (v := 2) dX12_does_13 rfl ?_
  refine x_iload_n 2 dX12_does_14 rfl rfl ?_
  refine x_imul dX12_does_15 ?_
  rw [show (2 : Int32) = nI 2 from rfl, pk_mul]
  refine x_iconst (v := 1) dX12_does_16 rfl ?_
  refine x_iadd dX12_does_17 ?_
  rw [nI_1]
  refine x_ialdn dX12_does_18 (by with_reducible repeat first | assumption | exact mH_0 ok | exact mH_1 | exact hset_s | refine mH_o (by first | assumption | exact nA ok (by omega) (by omega) (by omega)) (by first | assumption | exact nA ok (by omega) (by omega) (by omega)) ?_ | refine hget_n (by first | assumption | exact Ne.symm (by assumption) | exact nA ok (by omega) (by omega) (by omega)) ?_) (by omega) (by first | decide | omega) ?_
  rw [hs]
  refine x_istore_n (L' := [(3, _), (2, _), (0, _), (1, _)]) dX12_does_19 rfl (ble rfl) rfl ?_
  first | refine x_aload_n 2 dX12_does_20 rfl rfl ?_ | refine x_aload_nN 2 dX12_does_20 rfl rfl ?_
  refine x_get fX12_42 rfl dX12_does_21 (by with_reducible repeat first | assumption | exact mH_0 ok | exact mH_1 | exact hset_s | refine mH_o (by first | assumption | exact nA ok (by omega) (by omega) (by omega)) (by first | assumption | exact nA ok (by omega) (by omega) (by omega)) ?_ | refine hget_n (by first | assumption | exact Ne.symm (by assumption) | exact nA ok (by omega) (by omega) (by omega)) ?_) (by rfl) ?_
  refine x_iload_n 3 dX12_does_24 rfl rfl ?_
  refine x_ialdn dX12_does_25 (by with_reducible repeat first | assumption | exact mH_0 ok | exact mH_1 | exact hset_s | refine mH_o (by first | assumption | exact nA ok (by omega) (by omega) (by omega)) (by first | assumption | exact nA ok (by omega) (by omega) (by omega)) ?_ | refine hget_n (by first | assumption | exact Ne.symm (by assumption) | exact nA ok (by omega) (by omega) (by omega)) ?_) (by omega) (by first | decide | omega) ?_
  rw [hk]
  refine x_tableIn 81 dX12_does_26 (by decide) (by decide) (by rfl) (by decide) ?_
  first | refine x_aload_n 2 dX12_does_81 rfl rfl ?_ | refine x_aload_nN 2 dX12_does_81 rfl rfl ?_
  refine x_iload_n 1 dX12_does_82 rfl rfl ?_
  refine x_iload_n 0 dX12_does_83 rfl rfl ?_
  refine x_callW (mc1 := 0) (ms1 := 0) (As := [.int _, .int _]) (ct_dCook ok A _ _) vX12_159 rfl (x_recv (by with_reducible repeat first | assumption | exact mH_0 ok | exact mH_1 | exact hset_s | refine mH_o (by first | assumption | exact nA ok (by omega) (by omega) (by omega)) (by first | assumption | exact nA ok (by omega) (by omega) (by omega)) ?_ | refine hget_n (by first | assumption | exact Ne.symm (by assumption) | exact nA ok (by omega) (by omega) (by omega)) ?_) rfl) rfl ⟨ble rfl, ble rfl⟩ (ble rfl) dX12_does_84 rfl ⟨by omega, by omega⟩ (fun w h9 q9 => ?_)
  obtain ⟨r, why1, wha1, beh1, its1, N1, rfl, rfl, D⟩ := q9
  refine x_iret rfl dX12_does_87 ?_
  exact ⟨_, _, _, _, _, _, rfl, rfl, D⟩
set_option maxRecDepth 100000 in
set_option maxHeartbeats 1000000 in
theorem ct_does_4 {l : Launch} {G : Gl} {h : Hp} {sv rem typ err lin wha its siz att wro tol : Int32} {N : Nat → Int32} (ok : Ok G) {ns np no : Nat} (A : RowA N ns np no) {kd nb : Nat → Int32} (h30 : h (Ad G 30) = some (eI G 16 kd)) (h31 : h (Ad G 31) = some (eI G 32 nb)) {ci : Nat} (hci : ci < 16) {f s : Int32} (hk : kd ci = nI 9) (hf : nb (2 * ci) = f) (hs : nb (2 * ci + 1) = s) : Ct l G mX12_does 7 (0) (0) [.ref (Ad G 20), .int (nI ci)] (mH G h (eMd G sv rem typ err lin 0 wha 0 its siz att wro tol) N) (fun w h' => ∃ r why' wha' beh' its' N', w = some (.int r) ∧ h' = mH G h (eMd G sv rem typ err lin why' wha' beh' its' siz att wro tol) N' ∧ DeedR (pSell N f s) r why' wha' beh' its' N') := by
  refine Ct.of (L := [(0, _), (1, _)]) (by decide) (ble rfl) rfl ?_
  first | refine x_aload_n 0 dX12_does_0 rfl rfl ?_ | refine x_aload_nN 0 dX12_does_0 rfl rfl ?_
  refine x_get fX12_45 rfl dX12_does_1 (by with_reducible repeat first | assumption | exact mH_0 ok | exact mH_1 | exact hset_s | refine mH_o (by first | assumption | exact nA ok (by omega) (by omega) (by omega)) (by first | assumption | exact nA ok (by omega) (by omega) (by omega)) ?_ | refine hget_n (by first | assumption | exact Ne.symm (by assumption) | exact nA ok (by omega) (by omega) (by omega)) ?_) (by rfl) ?_
  refine x_iconst (v := 2) dX12_does_4 rfl ?_
  refine x_iload_n 1 dX12_does_5 rfl rfl ?_
  refine x_imul dX12_does_6 ?_
  rw [show (2 : Int32) = nI 2 from rfl, pk_mul]
  refine x_ialdn dX12_does_7 (by with_reducible repeat first | assumption | exact mH_0 ok | exact mH_1 | exact hset_s | refine mH_o (by first | assumption | exact nA ok (by omega) (by omega) (by omega)) (by first | assumption | exact nA ok (by omega) (by omega) (by omega)) ?_ | refine hget_n (by first | assumption | exact Ne.symm (by assumption) | exact nA ok (by omega) (by omega) (by omega)) ?_) (by omega) (by first | decide | omega) ?_
  rw [hf]
  refine x_istore_n (L' := [(2, _), (0, _), (1, _)]) dX12_does_8 rfl (ble rfl) rfl ?_
  first | refine x_aload_n 1 dX12_does_9 rfl rfl ?_ | refine x_aload_nN 1 dX12_does_9 rfl rfl ?_
  refine x_get fX12_45 rfl dX12_does_10 (by with_reducible repeat first | assumption | exact mH_0 ok | exact mH_1 | exact hset_s | refine mH_o (by first | assumption | exact nA ok (by omega) (by omega) (by omega)) (by first | assumption | exact nA ok (by omega) (by omega) (by omega)) ?_ | refine hget_n (by first | assumption | exact Ne.symm (by assumption) | exact nA ok (by omega) (by omega) (by omega)) ?_) (by rfl) ?_
  refine x_iconst (v := 2) dX12_does_13 rfl ?_
  refine x_iload_n 2 dX12_does_14 rfl rfl ?_
  refine x_imul dX12_does_15 ?_
  rw [show (2 : Int32) = nI 2 from rfl, pk_mul]
  refine x_iconst (v := 1) dX12_does_16 rfl ?_
  refine x_iadd dX12_does_17 ?_
  rw [nI_1]
  refine x_ialdn dX12_does_18 (by with_reducible repeat first | assumption | exact mH_0 ok | exact mH_1 | exact hset_s | refine mH_o (by first | assumption | exact nA ok (by omega) (by omega) (by omega)) (by first | assumption | exact nA ok (by omega) (by omega) (by omega)) ?_ | refine hget_n (by first | assumption | exact Ne.symm (by assumption) | exact nA ok (by omega) (by omega) (by omega)) ?_) (by omega) (by first | decide | omega) ?_
  rw [hs]
  refine x_istore_n (L' := [(3, _), (2, _), (0, _), (1, _)]) dX12_does_19 rfl (ble rfl) rfl ?_
  first | refine x_aload_n 2 dX12_does_20 rfl rfl ?_ | refine x_aload_nN 2 dX12_does_20 rfl rfl ?_
  refine x_get fX12_42 rfl dX12_does_21 (by with_reducible repeat first | assumption | exact mH_0 ok | exact mH_1 | exact hset_s | refine mH_o (by first | assumption | exact nA ok (by omega) (by omega) (by omega)) (by first | assumption | exact nA ok (by omega) (by omega) (by omega)) ?_ | refine hget_n (by first | assumption | exact Ne.symm (by assumption) | exact nA ok (by omega) (by omega) (by omega)) ?_) (by rfl) ?_
  refine x_iload_n 3 dX12_does_24 rfl rfl ?_
  refine x_ialdn dX12_does_25 (by with_reducible repeat first | assumption | exact mH_0 ok | exact mH_1 | exact hset_s | refine mH_o (by first | assumption | exact nA ok (by omega) (by omega) (by omega)) (by first | assumption | exact nA ok (by omega) (by omega) (by omega)) ?_ | refine hget_n (by first | assumption | exact Ne.symm (by assumption) | exact nA ok (by omega) (by omega) (by omega)) ?_) (by omega) (by first | decide | omega) ?_
  rw [hk]
  refine x_tableIn 88 dX12_does_26 (by decide) (by decide) (by rfl) (by decide) ?_
  first | refine x_aload_n 2 dX12_does_88 rfl rfl ?_ | refine x_aload_nN 2 dX12_does_88 rfl rfl ?_
  refine x_iload_n 1 dX12_does_89 rfl rfl ?_
  refine x_iload_n 0 dX12_does_90 rfl rfl ?_
  refine x_callW (mc1 := 0) (ms1 := 0) (As := [.int _, .int _]) (ct_dSell ok A _ _) vX12_180 rfl (x_recv (by with_reducible repeat first | assumption | exact mH_0 ok | exact mH_1 | exact hset_s | refine mH_o (by first | assumption | exact nA ok (by omega) (by omega) (by omega)) (by first | assumption | exact nA ok (by omega) (by omega) (by omega)) ?_ | refine hget_n (by first | assumption | exact Ne.symm (by assumption) | exact nA ok (by omega) (by omega) (by omega)) ?_) rfl) rfl ⟨ble rfl, ble rfl⟩ (ble rfl) dX12_does_91 rfl ⟨by omega, by omega⟩ (fun w h9 q9 => ?_)
  obtain ⟨r, why1, wha1, beh1, its1, N1, rfl, rfl, D⟩ := q9
  refine x_iret rfl dX12_does_94 ?_
  exact ⟨_, _, _, _, _, _, rfl, rfl, D⟩
set_option maxRecDepth 100000 in
set_option maxHeartbeats 1000000 in
theorem ct_does_5 {l : Launch} {G : Gl} {h : Hp} {sv rem typ err lin wha its siz att wro tol : Int32} {N : Nat → Int32} (ok : Ok G) {ns np no : Nat} (A : RowA N ns np no) {kd nb : Nat → Int32} (h30 : h (Ad G 30) = some (eI G 16 kd)) (h31 : h (Ad G 31) = some (eI G 32 nb)) {ci : Nat} (hci : ci < 16) {f : Int32} (hk : kd ci = nI 10) (hf : nb (2 * ci) = f)  : Ct l G mX12_does 7 (0) (0) [.ref (Ad G 20), .int (nI ci)] (mH G h (eMd G sv rem typ err lin 0 wha 0 its siz att wro tol) N) (fun w h' => ∃ r why' wha' beh' its' N', w = some (.int r) ∧ h' = mH G h (eMd G sv rem typ err lin why' wha' beh' its' siz att wro tol) N' ∧ DeedR (pBars N f) r why' wha' beh' its' N') := by
  refine Ct.of (L := [(0, _), (1, _)]) (by decide) (ble rfl) rfl ?_
  first | refine x_aload_n 0 dX12_does_0 rfl rfl ?_ | refine x_aload_nN 0 dX12_does_0 rfl rfl ?_
  refine x_get fX12_45 rfl dX12_does_1 (by with_reducible repeat first | assumption | exact mH_0 ok | exact mH_1 | exact hset_s | refine mH_o (by first | assumption | exact nA ok (by omega) (by omega) (by omega)) (by first | assumption | exact nA ok (by omega) (by omega) (by omega)) ?_ | refine hget_n (by first | assumption | exact Ne.symm (by assumption) | exact nA ok (by omega) (by omega) (by omega)) ?_) (by rfl) ?_
  refine x_iconst (v := 2) dX12_does_4 rfl ?_
  refine x_iload_n 1 dX12_does_5 rfl rfl ?_
  refine x_imul dX12_does_6 ?_
  rw [show (2 : Int32) = nI 2 from rfl, pk_mul]
  refine x_ialdn dX12_does_7 (by with_reducible repeat first | assumption | exact mH_0 ok | exact mH_1 | exact hset_s | refine mH_o (by first | assumption | exact nA ok (by omega) (by omega) (by omega)) (by first | assumption | exact nA ok (by omega) (by omega) (by omega)) ?_ | refine hget_n (by first | assumption | exact Ne.symm (by assumption) | exact nA ok (by omega) (by omega) (by omega)) ?_) (by omega) (by first | decide | omega) ?_
  rw [hf]
  refine x_istore_n (L' := [(2, _), (0, _), (1, _)]) dX12_does_8 rfl (ble rfl) rfl ?_
  first | refine x_aload_n 1 dX12_does_9 rfl rfl ?_ | refine x_aload_nN 1 dX12_does_9 rfl rfl ?_
  refine x_get fX12_45 rfl dX12_does_10 (by with_reducible repeat first | assumption | exact mH_0 ok | exact mH_1 | exact hset_s | refine mH_o (by first | assumption | exact nA ok (by omega) (by omega) (by omega)) (by first | assumption | exact nA ok (by omega) (by omega) (by omega)) ?_ | refine hget_n (by first | assumption | exact Ne.symm (by assumption) | exact nA ok (by omega) (by omega) (by omega)) ?_) (by rfl) ?_
  refine x_iconst (v := 2) dX12_does_13 rfl ?_
  refine x_iload_n 2 dX12_does_14 rfl rfl ?_
  refine x_imul dX12_does_15 ?_
  rw [show (2 : Int32) = nI 2 from rfl, pk_mul]
  refine x_iconst (v := 1) dX12_does_16 rfl ?_
  refine x_iadd dX12_does_17 ?_
  rw [nI_1]
  refine x_ialdn dX12_does_18 (by with_reducible repeat first | assumption | exact mH_0 ok | exact mH_1 | exact hset_s | refine mH_o (by first | assumption | exact nA ok (by omega) (by omega) (by omega)) (by first | assumption | exact nA ok (by omega) (by omega) (by omega)) ?_ | refine hget_n (by first | assumption | exact Ne.symm (by assumption) | exact nA ok (by omega) (by omega) (by omega)) ?_) (by omega) (by first | decide | omega) ?_
  refine x_istore_n (L' := [(3, _), (2, _), (0, _), (1, _)]) dX12_does_19 rfl (ble rfl) rfl ?_
  first | refine x_aload_n 2 dX12_does_20 rfl rfl ?_ | refine x_aload_nN 2 dX12_does_20 rfl rfl ?_
  refine x_get fX12_42 rfl dX12_does_21 (by with_reducible repeat first | assumption | exact mH_0 ok | exact mH_1 | exact hset_s | refine mH_o (by first | assumption | exact nA ok (by omega) (by omega) (by omega)) (by first | assumption | exact nA ok (by omega) (by omega) (by omega)) ?_ | refine hget_n (by first | assumption | exact Ne.symm (by assumption) | exact nA ok (by omega) (by omega) (by omega)) ?_) (by rfl) ?_
  refine x_iload_n 3 dX12_does_24 rfl rfl ?_
  refine x_ialdn dX12_does_25 (by with_reducible repeat first | assumption | exact mH_0 ok | exact mH_1 | exact hset_s | refine mH_o (by first | assumption | exact nA ok (by omega) (by omega) (by omega)) (by first | assumption | exact nA ok (by omega) (by omega) (by omega)) ?_ | refine hget_n (by first | assumption | exact Ne.symm (by assumption) | exact nA ok (by omega) (by omega) (by omega)) ?_) (by omega) (by first | decide | omega) ?_
  rw [hk]
  refine x_tableOut 95 dX12_does_26 (by decide) (by decide) ?_
  first | refine x_aload_n 2 dX12_does_95 rfl rfl ?_ | refine x_aload_nN 2 dX12_does_95 rfl rfl ?_
  refine x_iload_n 1 dX12_does_96 rfl rfl ?_
  refine x_callW (mc1 := 0) (ms1 := 0) (As := [.int _]) (ct_dBars ok _) vX12_141 rfl (x_recv (by with_reducible repeat first | assumption | exact mH_0 ok | exact mH_1 | exact hset_s | refine mH_o (by first | assumption | exact nA ok (by omega) (by omega) (by omega)) (by first | assumption | exact nA ok (by omega) (by omega) (by omega)) ?_ | refine hget_n (by first | assumption | exact Ne.symm (by assumption) | exact nA ok (by omega) (by omega) (by omega)) ?_) rfl) rfl ⟨ble rfl, ble rfl⟩ (ble rfl) dX12_does_97 rfl ⟨by omega, by omega⟩ (fun w h9 q9 => ?_)
  obtain ⟨r, why1, wha1, beh1, its1, N1, rfl, rfl, D⟩ := q9
  refine x_iret rfl dX12_does_100 ?_
  exact ⟨_, _, _, _, _, _, rfl, rfl, D⟩
set_option maxRecDepth 100000 in
theorem ct_does {l : Launch} {G : Gl} {h : Hp} {sv rem typ err lin wha its siz att wro tol : Int32} {N : Nat → Int32} (ok : Ok G) {ns np no : Nat} (A : RowA N ns np no) {kd nb : Nat → Int32} (h30 : h (Ad G 30) = some (eI G 16 kd)) (h31 : h (Ad G 31) = some (eI G 32 nb)) {ci : Nat} (hci : ci < 16) {c : Nat × Int32 × Int32} (hv : c.1 < 6) (hk : kd ci = nI (5 + c.1)) (hf : nb (2 * ci) = c.2.1) (hs : c.1 < 5 → nb (2 * ci + 1) = c.2.2) : Ct l G mX12_does 7 0 0 [.ref (Ad G 20), .int (nI ci)] (mH G h (eMd G sv rem typ err lin 0 wha 0 its siz att wro tol) N) (fun w h' => ∃ r why' wha' beh' its' N', w = some (.int r) ∧ h' = mH G h (eMd G sv rem typ err lin why' wha' beh' its' siz att wro tol) N' ∧ DeedR (pDo N c) r why' wha' beh' its' N') := by
  obtain ⟨v, f, s⟩ := c
  dsimp only at hv hk hf hs
  rcases (show v = 0 ∨ v = 1 ∨ v = 2 ∨ v = 3 ∨ v = 4 ∨ v = 5 by omega) with rfl | rfl | rfl | rfl | rfl | rfl
  · rw [show pDo N (0, f, s) = pRaise N f s by simp [pDo]]; exact ct_does_0 ok A h30 h31 hci hk hf (hs (by omega))
  · rw [show pDo N (1, f, s) = pHit N f s by simp [pDo]]; exact ct_does_1 ok A h30 h31 hci hk hf (hs (by omega))
  · rw [show pDo N (2, f, s) = pTin N f s by simp [pDo]]; exact ct_does_2 ok A h30 h31 hci hk hf (hs (by omega))
  · rw [show pDo N (3, f, s) = pCook N f s by simp [pDo]]; exact ct_does_3 ok A h30 h31 hci hk hf (hs (by omega))
  · rw [show pDo N (4, f, s) = pSell N f s by simp [pDo]]; exact ct_does_4 ok A h30 h31 hci hk hf (hs (by omega))
  · rw [show pDo N (5, f, s) = pBars N f by simp [pDo]]; exact ct_does_5 ok A h30 h31 hci hk hf
