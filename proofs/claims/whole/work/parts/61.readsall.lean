set_option maxRecDepth 100000 in
set_option maxHeartbeats 1000000 in
theorem ct_readsAll_y {l : Launch} {G : Gl} {h : Hp} {sv rem typ err lin why wha beh its att wro tol : Int32} {N : Nat → Int32} (ok : Ok G) {tv : Nat → Int32} (htext : h (Ad G 27) = some (eI G 60 tv)) {tx : List Int32} (hT : ∀ i, i < tx.length → tv i = tx.getD i 0) (h60 : tx.length ≤ 60) {kd0 nb0 : Nat → Int32} (h30 : h (Ad G 30) = some (eI G 16 kd0)) (h31 : h (Ad G 31) = some (eI G 32 nb0)) {C0 : CmL} (Tx : Txt tx 0 C0) : Ct l G mX12_readsAll 10 (0) (0) [.ref (Ad G 20)] (mH G h (eMd G sv rem typ err lin why wha beh its (nI tx.length) att wro tol) N) (fun w h' => w = none ∧ ∃ kd nb att, h' = (mH G (hset (hset h (Ad G 30) (eI G 16 kd)) (Ad G 31) (eI G 32 nb)) (eMd G sv rem typ err lin why wha beh its (nI tx.length) att (-1) (nI C0.length)) N) ∧ ∀ q, q < C0.length → ∀ c, C0[q]? = some c → kd q = nI (5 + c.1) ∧ nb (2 * q) = c.2.1 ∧ (c.1 < 5 → nb (2 * q + 1) = c.2.2)) := by
  obtain ⟨⟨v, f, s⟩, r, rfl⟩ : ∃ c r, C0 = c :: r := by cases C0 with | nil => exact absurd Tx id | cons c r => exact ⟨c, r, rfl⟩
  have hl := Tx.le
  obtain ⟨a1, C, hr⟩ := Tx
  have hle := C.le
  refine Ct.of (L := [(0, _)]) (by decide) (ble rfl) rfl ?_
  first | refine x_aload_n 0 dX12_readsAll_0 rfl rfl ?_ | refine x_aload_nN 0 dX12_readsAll_0 rfl rfl ?_
  refine x_iconst (v := 0) dX12_readsAll_1 rfl ?_
  refine x_mput ok fX12_242 rfl rfl rfl rfl dX12_readsAll_2 (by exact ble rfl) ?_
  first | refine x_aload_n 0 dX12_readsAll_5 rfl rfl ?_ | refine x_aload_nN 0 dX12_readsAll_5 rfl rfl ?_
  refine x_iconst (v := -1) dX12_readsAll_6 rfl ?_
  refine x_mput ok fX12_248 rfl rfl rfl rfl dX12_readsAll_7 (by exact ble rfl) ?_
  first | refine x_aload_n 0 dX12_readsAll_10 rfl rfl ?_ | refine x_aload_nN 0 dX12_readsAll_10 rfl rfl ?_
  refine x_iconst (v := 0) dX12_readsAll_11 rfl ?_
  refine x_mput ok fX12_260 rfl rfl rfl rfl dX12_readsAll_12 (by exact ble rfl) ?_
  refine x_eqH (h' := mH G h (eMd G sv rem typ err lin why wha beh its (nI tx.length) (nI 0) (-1) (nI 0)) N) rfl ?_
  first | refine x_aload_n 0 dX12_readsAll_15 rfl rfl ?_ | refine x_aload_nN 0 dX12_readsAll_15 rfl rfl ?_
  refine x_callW (mc1 := 0) (ms1 := 0) (As := []) (ct_rcOK ok htext hT h60 (a := 0) (by omega) h30 h31 (ci := 0) (by omega) C) vX12_267 rfl (x_recv (by with_reducible repeat first | assumption | exact mH_0 ok | exact mH_1 | exact hset_s | refine mH_o (by first | assumption | exact nA ok (by omega) (by omega) (by omega)) (by first | assumption | exact nA ok (by omega) (by omega) (by omega)) ?_ | refine hget_n (by first | assumption | exact Ne.symm (by assumption) | exact nA ok (by omega) (by omega) (by omega)) ?_) rfl) rfl ⟨ble rfl, ble rfl⟩ (ble rfl) dX12_readsAll_16 rfl ⟨by omega, by omega⟩ (fun w h1 q1 => ?_)
  obtain ⟨rfl, kd1, nb1, att1, rfl, pr, rfl, e1, e2, e3⟩ := q1
  refine rA_y ok htext hT h60 (C0 := (v, f, s) :: r) r 1 a1 kd1 nb1 rfl (by simp) ?_ hr hle.2 (by simp only [List.length_cons] at hl; omega)
  intro q hq c hc
  obtain rfl : q = 0 := by omega
  cases hc
  exact ⟨e1, e2, e3⟩
set_option maxRecDepth 100000 in
set_option maxHeartbeats 1000000 in
theorem ct_readsAll_f {l : Launch} {G : Gl} {h : Hp} {sv rem typ err lin why wha beh its att wro tol : Int32} {N : Nat → Int32} (ok : Ok G) {tv : Nat → Int32} (htext : h (Ad G 27) = some (eI G 60 tv)) {tx : List Int32} (hT : ∀ i, i < tx.length → tv i = tx.getD i 0) (h60 : tx.length ≤ 60) {kd0 nb0 : Nat → Int32} (h30 : h (Ad G 30) = some (eI G 16 kd0)) (h31 : h (Ad G 31) = some (eI G 32 nb0)) {p : Nat} (F : Flt tx 0 p) : Ct l G mX12_readsAll 10 (0) (0) [.ref (Ad G 20)] (mH G h (eMd G sv rem typ err lin why wha beh its (nI tx.length) att wro tol) N) (fun w h' => w = none ∧ ∃ kd nb att tol', h' = (mH G (hset (hset h (Ad G 30) (eI G 16 kd)) (Ad G 31) (eI G 32 nb)) (eMd G sv rem typ err lin why wha beh its (nI tx.length) att (nI p) tol') N)) := by
  have hnp : ¬ nI p = -1 := nIm (by have := F.ple; omega)
  refine Ct.of (L := [(0, _)]) (by decide) (ble rfl) rfl ?_
  first | refine x_aload_n 0 dX12_readsAll_0 rfl rfl ?_ | refine x_aload_nN 0 dX12_readsAll_0 rfl rfl ?_
  refine x_iconst (v := 0) dX12_readsAll_1 rfl ?_
  refine x_mput ok fX12_242 rfl rfl rfl rfl dX12_readsAll_2 (by exact ble rfl) ?_
  first | refine x_aload_n 0 dX12_readsAll_5 rfl rfl ?_ | refine x_aload_nN 0 dX12_readsAll_5 rfl rfl ?_
  refine x_iconst (v := -1) dX12_readsAll_6 rfl ?_
  refine x_mput ok fX12_248 rfl rfl rfl rfl dX12_readsAll_7 (by exact ble rfl) ?_
  first | refine x_aload_n 0 dX12_readsAll_10 rfl rfl ?_ | refine x_aload_nN 0 dX12_readsAll_10 rfl rfl ?_
  refine x_iconst (v := 0) dX12_readsAll_11 rfl ?_
  refine x_mput ok fX12_260 rfl rfl rfl rfl dX12_readsAll_12 (by exact ble rfl) ?_
  refine x_eqH (h' := mH G h (eMd G sv rem typ err lin why wha beh its (nI tx.length) (nI 0) (-1) (nI 0)) N) rfl ?_
  first | refine x_aload_n 0 dX12_readsAll_15 rfl rfl ?_ | refine x_aload_nN 0 dX12_readsAll_15 rfl rfl ?_
  refine x_callW (mc1 := 0) (ms1 := 0) (As := []) (ct_rcNo ok htext hT h60 (a := 0) (by omega) h30 h31 (ci := 0) (by omega) F) vX12_267 rfl (x_recv (by with_reducible repeat first | assumption | exact mH_0 ok | exact mH_1 | exact hset_s | refine mH_o (by first | assumption | exact nA ok (by omega) (by omega) (by omega)) (by first | assumption | exact nA ok (by omega) (by omega) (by omega)) ?_ | refine hget_n (by first | assumption | exact Ne.symm (by assumption) | exact nA ok (by omega) (by omega) (by omega)) ?_) rfl) rfl ⟨ble rfl, ble rfl⟩ (ble rfl) dX12_readsAll_16 rfl ⟨by omega, by omega⟩ (fun w h1 q1 => ?_)
  obtain ⟨rfl, kd1, nb1, att1, rfl, -, -⟩ := q1
  first | refine x_aload_n 0 dX12_readsAll_19 rfl rfl ?_ | refine x_aload_nN 0 dX12_readsAll_19 rfl rfl ?_
  refine x_get fX12_248 rfl dX12_readsAll_20 (by with_reducible repeat first | assumption | exact mH_0 ok | exact mH_1 | exact hset_s | refine mH_o (by first | assumption | exact nA ok (by omega) (by omega) (by omega)) (by first | assumption | exact nA ok (by omega) (by omega) (by omega)) ?_ | refine hget_n (by first | assumption | exact Ne.symm (by assumption) | exact nA ok (by omega) (by omega) (by omega)) ?_) (by rfl) ?_
  refine x_iconst (v := -1) dX12_readsAll_23 rfl ?_
  refine x_icmp_ne 62 dX12_readsAll_24 (by decide) (fun _ => ?_) (fun z => by first | exact absurd (hnp) z | exact absurd z (hnp))
  refine x_vret rfl dX12_readsAll_62 ?_
  exact ⟨rfl, _, _, _, _, rfl⟩
set_option maxRecDepth 100000 in
set_option maxHeartbeats 1000000 in
theorem ct_readsAll_g {l : Launch} {G : Gl} {h : Hp} {sv rem typ err lin why wha beh its att wro tol : Int32} {N : Nat → Int32} (ok : Ok G) {tv : Nat → Int32} (htext : h (Ad G 27) = some (eI G 60 tv)) {tx : List Int32} (hT : ∀ i, i < tx.length → tv i = tx.getD i 0) (h60 : tx.length ≤ 60) {kd0 nb0 : Nat → Int32} (h30 : h (Ad G 30) = some (eI G 16 kd0)) (h31 : h (Ad G 31) = some (eI G 32 nb0)) {p v : Nat} {f s : Int32} (C : Cmd tx 0 v f s p) (hne : ¬ p = tx.length) (hq : ¬ Sem tx p) : Ct l G mX12_readsAll 10 (0) (0) [.ref (Ad G 20)] (mH G h (eMd G sv rem typ err lin why wha beh its (nI tx.length) att wro tol) N) (fun w h' => w = none ∧ ∃ kd nb att tol', h' = (mH G (hset (hset h (Ad G 30) (eI G 16 kd)) (Ad G 31) (eI G 32 nb)) (eMd G sv rem typ err lin why wha beh its (nI tx.length) att (nI p) tol') N)) := by
  have hle := C.le
  have hpl : p < tx.length := by omega
  have hnp : ¬ nI p = -1 := nIm (by omega)
  have n27a := nA ok (show 27 < 3000 by omega) (show 30 < 3000 by omega) (by omega)
  have n27b := nA ok (show 27 < 3000 by omega) (show 31 < 3000 by omega) (by omega)
  have hsg : inI (sg tx p) 59 59 = 0 := by
    unfold sg
    rw [if_pos hpl]
    refine inI_0.mpr ?_
    by_cases y : tx.getD p 0 < 59
    · exact Or.inl y
    · exact Or.inr (Int32.lt_of_le_of_ne (Int32.not_lt.mp y) (fun z => hq ⟨hpl, z.symm⟩))
  refine Ct.of (L := [(0, _)]) (by decide) (ble rfl) rfl ?_
  first | refine x_aload_n 0 dX12_readsAll_0 rfl rfl ?_ | refine x_aload_nN 0 dX12_readsAll_0 rfl rfl ?_
  refine x_iconst (v := 0) dX12_readsAll_1 rfl ?_
  refine x_mput ok fX12_242 rfl rfl rfl rfl dX12_readsAll_2 (by exact ble rfl) ?_
  first | refine x_aload_n 0 dX12_readsAll_5 rfl rfl ?_ | refine x_aload_nN 0 dX12_readsAll_5 rfl rfl ?_
  refine x_iconst (v := -1) dX12_readsAll_6 rfl ?_
  refine x_mput ok fX12_248 rfl rfl rfl rfl dX12_readsAll_7 (by exact ble rfl) ?_
  first | refine x_aload_n 0 dX12_readsAll_10 rfl rfl ?_ | refine x_aload_nN 0 dX12_readsAll_10 rfl rfl ?_
  refine x_iconst (v := 0) dX12_readsAll_11 rfl ?_
  refine x_mput ok fX12_260 rfl rfl rfl rfl dX12_readsAll_12 (by exact ble rfl) ?_
  refine x_eqH (h' := mH G h (eMd G sv rem typ err lin why wha beh its (nI tx.length) (nI 0) (-1) (nI 0)) N) rfl ?_
  first | refine x_aload_n 0 dX12_readsAll_15 rfl rfl ?_ | refine x_aload_nN 0 dX12_readsAll_15 rfl rfl ?_
  refine x_callW (mc1 := 0) (ms1 := 0) (As := []) (ct_rcOK ok htext hT h60 (a := 0) (by omega) h30 h31 (ci := 0) (by omega) C) vX12_267 rfl (x_recv (by with_reducible repeat first | assumption | exact mH_0 ok | exact mH_1 | exact hset_s | refine mH_o (by first | assumption | exact nA ok (by omega) (by omega) (by omega)) (by first | assumption | exact nA ok (by omega) (by omega) (by omega)) ?_ | refine hget_n (by first | assumption | exact Ne.symm (by assumption) | exact nA ok (by omega) (by omega) (by omega)) ?_) rfl) rfl ⟨ble rfl, ble rfl⟩ (ble rfl) dX12_readsAll_16 rfl ⟨by omega, by omega⟩ (fun w h1 q1 => ?_)
  obtain ⟨rfl, kd1, nb1, att1, rfl, pr, rfl, e1, e2, e3⟩ := q1
  have ht2 : hset (hset h (Ad G 30) (eI G 16 kd1)) (Ad G 31) (eI G 32 nb1) (Ad G 27) = some (eI G 60 tv) := hget_n n27b (hget_n n27a htext)
  first | refine x_aload_n 0 dX12_readsAll_19 rfl rfl ?_ | refine x_aload_nN 0 dX12_readsAll_19 rfl rfl ?_
  refine x_get fX12_248 rfl dX12_readsAll_20 (by with_reducible repeat first | assumption | exact mH_0 ok | exact mH_1 | exact hset_s | refine mH_o (by first | assumption | exact nA ok (by omega) (by omega) (by omega)) (by first | assumption | exact nA ok (by omega) (by omega) (by omega)) ?_ | refine hget_n (by first | assumption | exact Ne.symm (by assumption) | exact nA ok (by omega) (by omega) (by omega)) ?_) (by rfl) ?_
  refine x_iconst (v := -1) dX12_readsAll_23 rfl ?_
  refine x_icmp_ne 62 dX12_readsAll_24 (by decide) (fun z => by first | exact absurd z (fun z => z rfl) | exact absurd (fun z => z rfl) z) (fun _ => ?_)
  first | refine x_aload_n 0 dX12_readsAll_27 rfl rfl ?_ | refine x_aload_nN 0 dX12_readsAll_27 rfl rfl ?_
  refine x_get fX12_242 rfl dX12_readsAll_28 (by with_reducible repeat first | assumption | exact mH_0 ok | exact mH_1 | exact hset_s | refine mH_o (by first | assumption | exact nA ok (by omega) (by omega) (by omega)) (by first | assumption | exact nA ok (by omega) (by omega) (by omega)) ?_ | refine hget_n (by first | assumption | exact Ne.symm (by assumption) | exact nA ok (by omega) (by omega) (by omega)) ?_) (by rfl) ?_
  first | refine x_aload_n 0 dX12_readsAll_31 rfl rfl ?_ | refine x_aload_nN 0 dX12_readsAll_31 rfl rfl ?_
  refine x_get fX12_245 rfl dX12_readsAll_32 (by with_reducible repeat first | assumption | exact mH_0 ok | exact mH_1 | exact hset_s | refine mH_o (by first | assumption | exact nA ok (by omega) (by omega) (by omega)) (by first | assumption | exact nA ok (by omega) (by omega) (by omega)) ?_ | refine hget_n (by first | assumption | exact Ne.symm (by assumption) | exact nA ok (by omega) (by omega) (by omega)) ?_) (by rfl) ?_
  refine x_icmp_ge 62 dX12_readsAll_35 (by decide) (fun z => by first | exact absurd z (nI_ge hpl (by omega)) | exact absurd (nI_ge hpl (by omega)) z) (fun _ => ?_)
  first | refine x_aload_n 0 dX12_readsAll_38 rfl rfl ?_ | refine x_aload_nN 0 dX12_readsAll_38 rfl rfl ?_
  refine x_bipush (v := 59) dX12_readsAll_39 rfl ?_
  refine x_bipush (v := 59) dX12_readsAll_41 rfl ?_
  refine x_cV1 (As := [.int _, .int _]) (ct_takes_n ok ht2 hT h60 (a := p) (by omega) (lo := 59) (hi := 59) hsg) vX12_254 rfl (x_recv (by with_reducible repeat first | assumption | exact mH_0 ok | exact mH_1 | exact hset_s | refine mH_o (by first | assumption | exact nA ok (by omega) (by omega) (by omega)) (by first | assumption | exact nA ok (by omega) (by omega) (by omega)) ?_ | refine hget_n (by first | assumption | exact Ne.symm (by assumption) | exact nA ok (by omega) (by omega) (by omega)) ?_) rfl) rfl ⟨ble rfl, ble rfl⟩ (ble rfl) dX12_readsAll_43 rfl ?_
  refine x_istore_n (L' := [(1, _), (0, _)]) dX12_readsAll_46 rfl (ble rfl) rfl ?_
  first | refine x_aload_n 1 dX12_readsAll_47 rfl rfl ?_ | refine x_aload_nN 1 dX12_readsAll_47 rfl rfl ?_
  refine x_get fX12_248 rfl dX12_readsAll_48 (by with_reducible repeat first | assumption | exact mH_0 ok | exact mH_1 | exact hset_s | refine mH_o (by first | assumption | exact nA ok (by omega) (by omega) (by omega)) (by first | assumption | exact nA ok (by omega) (by omega) (by omega)) ?_ | refine hget_n (by first | assumption | exact Ne.symm (by assumption) | exact nA ok (by omega) (by omega) (by omega)) ?_) (by rfl) ?_
  refine x_iconst (v := -1) dX12_readsAll_51 rfl ?_
  refine x_icmp_ne 59 dX12_readsAll_52 (by decide) (fun _ => ?_) (fun z => by first | exact absurd (hnp) z | exact absurd z (hnp))
  refine x_goto 19 dX12_readsAll_59 (by decide) ?_
  refine x_locs (L' := [(0, _)]) [1] rfl ?_
  first | refine x_aload_n 0 dX12_readsAll_19 rfl rfl ?_ | refine x_aload_nN 0 dX12_readsAll_19 rfl rfl ?_
  refine x_get fX12_248 rfl dX12_readsAll_20 (by with_reducible repeat first | assumption | exact mH_0 ok | exact mH_1 | exact hset_s | refine mH_o (by first | assumption | exact nA ok (by omega) (by omega) (by omega)) (by first | assumption | exact nA ok (by omega) (by omega) (by omega)) ?_ | refine hget_n (by first | assumption | exact Ne.symm (by assumption) | exact nA ok (by omega) (by omega) (by omega)) ?_) (by rfl) ?_
  refine x_iconst (v := -1) dX12_readsAll_23 rfl ?_
  refine x_icmp_ne 62 dX12_readsAll_24 (by decide) (fun _ => ?_) (fun z => by first | exact absurd (hnp) z | exact absurd z (hnp))
  refine x_vret rfl dX12_readsAll_62 ?_
  exact ⟨rfl, _, _, _, _, rfl⟩
set_option maxRecDepth 100000 in
set_option maxHeartbeats 1000000 in
theorem ct_readsAll_h {l : Launch} {G : Gl} {h : Hp} {sv rem typ err lin why wha beh its att wro tol : Int32} {N : Nat → Int32} (ok : Ok G) {tv : Nat → Int32} (htext : h (Ad G 27) = some (eI G 60 tv)) {tx : List Int32} (hT : ∀ i, i < tx.length → tv i = tx.getD i 0) (h60 : tx.length ≤ 60) {kd0 nb0 : Nat → Int32} (h30 : h (Ad G 30) = some (eI G 16 kd0)) (h31 : h (Ad G 31) = some (eI G 32 nb0)) {p k v a2 : Nat} {f s : Int32} (C : Cmd tx 0 v f s a2) (qs : Sem tx a2) (hF : TxF tx p (a2 + 1) k) : Ct l G mX12_readsAll 10 (0) (0) [.ref (Ad G 20)] (mH G h (eMd G sv rem typ err lin why wha beh its (nI tx.length) att wro tol) N) (fun w h' => w = none ∧ ∃ kd nb att tol', h' = (mH G (hset (hset h (Ad G 30) (eI G 16 kd)) (Ad G 31) (eI G 32 nb)) (eMd G sv rem typ err lin why wha beh its (nI tx.length) att (nI p) tol') N)) := by
  have hle := C.le
  have hkl := TxF.le k (a2 + 1) hF (by have := qs.1; omega)
  refine Ct.of (L := [(0, _)]) (by decide) (ble rfl) rfl ?_
  first | refine x_aload_n 0 dX12_readsAll_0 rfl rfl ?_ | refine x_aload_nN 0 dX12_readsAll_0 rfl rfl ?_
  refine x_iconst (v := 0) dX12_readsAll_1 rfl ?_
  refine x_mput ok fX12_242 rfl rfl rfl rfl dX12_readsAll_2 (by exact ble rfl) ?_
  first | refine x_aload_n 0 dX12_readsAll_5 rfl rfl ?_ | refine x_aload_nN 0 dX12_readsAll_5 rfl rfl ?_
  refine x_iconst (v := -1) dX12_readsAll_6 rfl ?_
  refine x_mput ok fX12_248 rfl rfl rfl rfl dX12_readsAll_7 (by exact ble rfl) ?_
  first | refine x_aload_n 0 dX12_readsAll_10 rfl rfl ?_ | refine x_aload_nN 0 dX12_readsAll_10 rfl rfl ?_
  refine x_iconst (v := 0) dX12_readsAll_11 rfl ?_
  refine x_mput ok fX12_260 rfl rfl rfl rfl dX12_readsAll_12 (by exact ble rfl) ?_
  refine x_eqH (h' := mH G h (eMd G sv rem typ err lin why wha beh its (nI tx.length) (nI 0) (-1) (nI 0)) N) rfl ?_
  first | refine x_aload_n 0 dX12_readsAll_15 rfl rfl ?_ | refine x_aload_nN 0 dX12_readsAll_15 rfl rfl ?_
  refine x_callW (mc1 := 0) (ms1 := 0) (As := []) (ct_rcOK ok htext hT h60 (a := 0) (by omega) h30 h31 (ci := 0) (by omega) C) vX12_267 rfl (x_recv (by with_reducible repeat first | assumption | exact mH_0 ok | exact mH_1 | exact hset_s | refine mH_o (by first | assumption | exact nA ok (by omega) (by omega) (by omega)) (by first | assumption | exact nA ok (by omega) (by omega) (by omega)) ?_ | refine hget_n (by first | assumption | exact Ne.symm (by assumption) | exact nA ok (by omega) (by omega) (by omega)) ?_) rfl) rfl ⟨ble rfl, ble rfl⟩ (ble rfl) dX12_readsAll_16 rfl ⟨by omega, by omega⟩ (fun w h1 q1 => ?_)
  obtain ⟨rfl, kd1, nb1, att1, rfl, pr, rfl, e1, e2, e3⟩ := q1
  exact rA_n ok htext hT h60 k 1 a2 kd1 nb1 ⟨qs, hF⟩ (by omega) hle.2
theorem ct_readsAll_n {l : Launch} {G : Gl} {h : Hp} {sv rem typ err lin why wha beh its att wro tol : Int32} {N : Nat → Int32} (ok : Ok G) {tv : Nat → Int32} (htext : h (Ad G 27) = some (eI G 60 tv)) {tx : List Int32} (hT : ∀ i, i < tx.length → tv i = tx.getD i 0) (h60 : tx.length ≤ 60) {kd0 nb0 : Nat → Int32} (h30 : h (Ad G 30) = some (eI G 16 kd0)) (h31 : h (Ad G 31) = some (eI G 32 nb0)) {p k : Nat} (F : TxF tx p 0 k) : Ct l G mX12_readsAll 10 0 0 [.ref (Ad G 20)] (mH G h (eMd G sv rem typ err lin why wha beh its (nI tx.length) att wro tol) N) (fun w h' => w = none ∧ ∃ kd nb att tol', h' = (mH G (hset (hset h (Ad G 30) (eI G 16 kd)) (Ad G 31) (eI G 32 nb)) (eMd G sv rem typ err lin why wha beh its (nI tx.length) att (nI p) tol') N)) := by
  cases k with
  | zero =>
    rcases F with F | ⟨v, f, s, C, e, q⟩
    · exact ct_readsAll_f ok htext hT h60 h30 h31 F
    · exact ct_readsAll_g ok htext hT h60 h30 h31 C e q
  | succ k =>
    obtain ⟨v, f, s, a2, C, q2, hF⟩ := F
    exact ct_readsAll_h ok htext hT h60 h30 h31 C q2 hF
