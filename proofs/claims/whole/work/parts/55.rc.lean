theorem nvm_t : ∀ d, d < 10 → nI (48 + d) - 48 = nI d ∧ ∀ e, e < 10 → 10 * (nI (48 + d) - 48) + (nI (48 + e) - 48) = nI (10 * d + e) := by decide +kernel
theorem nv_1 {tx : List Int32} {a : Nat} (h : dgt tx a) : nvI tx a 1 = tx.getD a 0 - 48 := by
  obtain ⟨d, hd, e⟩ := dgt_n h
  show mx (-1) 0 * 10 + tx.getD (a + 0) 0 - 48 = _
  rw [Nat.add_zero, e, (nv_t d hd).1, (nvm_t d hd).1]
theorem nv_2 {tx : List Int32} {a : Nat} (h : dgt tx a) (h2 : dgt tx (a + 1)) : nvI tx a 2 = 10 * (tx.getD a 0 - 48) + (tx.getD (a + 1) 0 - 48) := by
  have e0 := nv_1 h
  obtain ⟨d, hd, e⟩ := dgt_n h
  obtain ⟨d2, hd2, e2⟩ := dgt_n h2
  show mx (nvI tx a 1) 0 * 10 + tx.getD (a + 1) 0 - 48 = _
  rw [e0, e, e2, (nvm_t d hd).1, ((nv_t d hd).2 d2 hd2)]
  have := (nvm_t d hd).2 d2 hd2
  rw [(nvm_t d hd).1] at this
  exact this.symm
theorem ct_num_ok {l : Launch} {G : Gl} {h : Hp} {sv rem typ err lin why wha beh its tol : Int32} {N : Nat → Int32} (ok : Ok G) {tv : Nat → Int32} (htext : h (Ad G 27) = some (eI G 60 tv)) {tx : List Int32} {a : Nat} (hT : ∀ i, i < tx.length → tv i = tx.getD i 0) (h60 : tx.length ≤ 60) (ha60 : a ≤ 60) (hb : a < tx.length ∧ tx.getD a 0 = 32) {n md : Nat} (hn : 0 < n) (D : Dg tx (a + 1) n md) {z : Int32} (hz : (z = 0 ∧ md = 1) ∨ (z = 1 ∧ md = 2)) : CtR l G mX12_number 5 [.ref (Ad G 20), .int z] (mH G h (eMd G sv rem typ err lin why wha beh its (nI tx.length) (nI (a)) (-1) tol) N) (some (.int (nvI tx (a + 1) n))) (mH G h (eMd G sv rem typ err lin why wha beh its (nI tx.length) (nI (a + 1 + n)) (-1) tol) N) := by
  obtain ⟨D1, D2, D3⟩ := D
  have hd1 : dgt tx (a + 1) := D2 0 hn
  rcases hz with ⟨rfl, rfl⟩ | ⟨rfl, rfl⟩
  · obtain rfl : n = 1 := by omega
    rw [nv_1 hd1]
    exact ct_num_1 ok htext hT h60 ha60 hb hd1 (Or.inl rfl)
  · rcases (show n = 1 ∨ n = 2 by omega) with rfl | rfl
    · rw [nv_1 hd1]
      exact ct_num_1 ok htext hT h60 ha60 hb hd1 (Or.inr (D3.resolve_left (by omega)))
    · rw [nv_2 hd1 (D2 1 (by omega))]
      exact ct_num_2 ok htext hT h60 ha60 hb hd1 (D2 1 (by omega))
set_option maxRecDepth 100000 in
set_option maxHeartbeats 1000000 in
theorem ct_rc_5 {l : Launch} {G : Gl} {h : Hp} {sv rem typ err lin why wha beh its : Int32} {N : Nat → Int32} (ok : Ok G) {tv : Nat → Int32} (htext : h (Ad G 27) = some (eI G 60 tv)) {tx : List Int32} {a : Nat} (hT : ∀ i, i < tx.length → tv i = tx.getD i 0) (h60 : tx.length ≤ 60) (ha60 : a ≤ 60) {kd nb : Nat → Int32} (h30 : h (Ad G 30) = some (eI G 16 kd)) (h31 : h (Ad G 31) = some (eI G 32 nb)) {ci : Nat} (hci : ci < 16) {ml : Nat → Nat} (hml : MlP tx a ml) {v : Nat} (hv : v < 6) (hfull : ml v = wl v) (hnf : ∀ u, u < v → ml u ≠ wl u) (hv5 : v = 5) (hb : a + wl v < tx.length ∧ tx.getD (a + wl v) 0 = 32) {n : Nat} (hn : 0 < n) (D : Dg tx (a + wl v + 1) n 2) : Ct l G mX12_readsCommand 8 (0) (0) [.ref (Ad G 20)] (mH G h (eMd G sv rem typ err lin why wha beh its (nI tx.length) (nI (a)) (-1) (nI ci)) N) (fun w h' => w = none ∧ ∃ kd' nb', h' = mH G (hset (hset h (Ad G 30) (eI G 16 kd')) (Ad G 31) (eI G 32 nb')) (eMd G sv rem typ err lin why wha beh its (nI tx.length) (nI (a + wl v + 1 + n)) (-1) (nI (ci + 1))) N ∧ (∀ q, q < ci → kd' q = kd q ∧ nb' (2 * q) = nb (2 * q) ∧ nb' (2 * q + 1) = nb (2 * q + 1)) ∧ kd' ci = nI (5 + v) ∧ nb' (2 * ci) = (nvI tx (a + wl v + 1) n)) := by
  have m30 : Ad G 30 ≠ Ad G 20 ∧ Ad G 30 ≠ Ad G 21 := ⟨nA ok (by omega) (by omega) (by omega), nA ok (by omega) (by omega) (by omega)⟩
  have m31 : Ad G 31 ≠ Ad G 20 ∧ Ad G 31 ≠ Ad G 21 := ⟨nA ok (by omega) (by omega) (by omega), nA ok (by omega) (by omega) (by omega)⟩
  have hmv := (hml v hv).2.1 (wl v - 1) (by have := (wl_t v hv).2.2.1; omega)
  have hw0 := (wl_t v hv).2.2.1
  have hal : a + (wl v - 1) < tx.length := hmv.1
  have haw : a + wl v ≤ 60 := by omega
  have h510 : nI (5 + v) = 10 := by rw [hv5]; rfl
  refine Ct.of (L := [(0, _)]) (by decide) (ble rfl) rfl ?_
  first | refine x_aload_n 0 dX12_readsCommand_0 rfl rfl ?_ | refine x_aload_nN 0 dX12_readsCommand_0 rfl rfl ?_
  refine x_cV1 (As := []) (ct_word_y ok htext hT h60 ha60 hml hv hfull hnf) vX12_257 rfl (x_recv (by with_reducible repeat first | assumption | exact mH_0 ok | exact mH_1 | exact hset_s | refine mH_o (by first | assumption | exact nA ok (by omega) (by omega) (by omega)) (by first | assumption | exact nA ok (by omega) (by omega) (by omega)) ?_ | refine hget_n (by first | assumption | exact Ne.symm (by assumption) | exact nA ok (by omega) (by omega) (by omega)) ?_) rfl) rfl ⟨ble rfl, ble rfl⟩ (ble rfl) dX12_readsCommand_1 rfl ?_
  refine x_istore_n (L' := [(1, _), (0, _)]) dX12_readsCommand_4 rfl (ble rfl) rfl ?_
  first | refine x_aload_n 1 dX12_readsCommand_5 rfl rfl ?_ | refine x_aload_nN 1 dX12_readsCommand_5 rfl rfl ?_
  refine x_get fX12_42 rfl dX12_readsCommand_6 (by with_reducible repeat first | assumption | exact mH_0 ok | exact mH_1 | exact hset_s | refine mH_o (by first | assumption | exact nA ok (by omega) (by omega) (by omega)) (by first | assumption | exact nA ok (by omega) (by omega) (by omega)) ?_ | refine hget_n (by first | assumption | exact Ne.symm (by assumption) | exact nA ok (by omega) (by omega) (by omega)) ?_) (by rfl) ?_
  first | refine x_aload_n 1 dX12_readsCommand_9 rfl rfl ?_ | refine x_aload_nN 1 dX12_readsCommand_9 rfl rfl ?_
  refine x_get fX12_260 rfl dX12_readsCommand_10 (by with_reducible repeat first | assumption | exact mH_0 ok | exact mH_1 | exact hset_s | refine mH_o (by first | assumption | exact nA ok (by omega) (by omega) (by omega)) (by first | assumption | exact nA ok (by omega) (by omega) (by omega)) ?_ | refine hget_n (by first | assumption | exact Ne.symm (by assumption) | exact nA ok (by omega) (by omega) (by omega)) ?_) (by rfl) ?_
  refine x_iload_n 0 dX12_readsCommand_13 rfl rfl ?_
  refine x_iastn dX12_readsCommand_14 (by with_reducible repeat first | assumption | exact mH_0 ok | exact mH_1 | exact hset_s | refine mH_o (by first | assumption | exact nA ok (by omega) (by omega) (by omega)) (by first | assumption | exact nA ok (by omega) (by omega) (by omega)) ?_ | refine hget_n (by first | assumption | exact Ne.symm (by assumption) | exact nA ok (by omega) (by omega) (by omega)) ?_) (by omega) (by first | decide | omega) (by first | assumption | exact aA (by assumption) (by omega)) ?_
  refine x_eqH (mH_c m30.1 m30.2) ?_
  first | refine x_aload_n 1 dX12_readsCommand_15 rfl rfl ?_ | refine x_aload_nN 1 dX12_readsCommand_15 rfl rfl ?_
  refine x_get fX12_45 rfl dX12_readsCommand_16 (by with_reducible repeat first | assumption | exact mH_0 ok | exact mH_1 | exact hset_s | refine mH_o (by first | assumption | exact nA ok (by omega) (by omega) (by omega)) (by first | assumption | exact nA ok (by omega) (by omega) (by omega)) ?_ | refine hget_n (by first | assumption | exact Ne.symm (by assumption) | exact nA ok (by omega) (by omega) (by omega)) ?_) (by rfl) ?_
  refine x_iconst (v := 2) dX12_readsCommand_19 rfl ?_
  first | refine x_aload_n 1 dX12_readsCommand_20 rfl rfl ?_ | refine x_aload_nN 1 dX12_readsCommand_20 rfl rfl ?_
  refine x_get fX12_260 rfl dX12_readsCommand_21 (by with_reducible repeat first | assumption | exact mH_0 ok | exact mH_1 | exact hset_s | refine mH_o (by first | assumption | exact nA ok (by omega) (by omega) (by omega)) (by first | assumption | exact nA ok (by omega) (by omega) (by omega)) ?_ | refine hget_n (by first | assumption | exact Ne.symm (by assumption) | exact nA ok (by omega) (by omega) (by omega)) ?_) (by rfl) ?_
  refine x_imul dX12_readsCommand_24 ?_
  rw [show (2 : Int32) = nI 2 from rfl, pk_mul]
  first | refine x_aload_n 1 dX12_readsCommand_25 rfl rfl ?_ | refine x_aload_nN 1 dX12_readsCommand_25 rfl rfl ?_
  refine x_iconst (v := 1) dX12_readsCommand_26 rfl ?_
  refine x_cV1 (As := [.int _]) (ct_num_ok ok (by with_reducible repeat first | assumption | exact mH_0 ok | exact mH_1 | exact hset_s | refine mH_o (by first | assumption | exact nA ok (by omega) (by omega) (by omega)) (by first | assumption | exact nA ok (by omega) (by omega) (by omega)) ?_ | refine hget_n (by first | assumption | exact Ne.symm (by assumption) | exact nA ok (by omega) (by omega) (by omega)) ?_) hT h60 (a := a + wl v) (by omega) hb hn D (Or.inr ⟨rfl, rfl⟩)) vX12_263 rfl (x_recv (by with_reducible repeat first | assumption | exact mH_0 ok | exact mH_1 | exact hset_s | refine mH_o (by first | assumption | exact nA ok (by omega) (by omega) (by omega)) (by first | assumption | exact nA ok (by omega) (by omega) (by omega)) ?_ | refine hget_n (by first | assumption | exact Ne.symm (by assumption) | exact nA ok (by omega) (by omega) (by omega)) ?_) rfl) rfl ⟨ble rfl, ble rfl⟩ (ble rfl) dX12_readsCommand_27 rfl ?_
  refine x_iastn dX12_readsCommand_30 (by with_reducible repeat first | assumption | exact mH_0 ok | exact mH_1 | exact hset_s | refine mH_o (by first | assumption | exact nA ok (by omega) (by omega) (by omega)) (by first | assumption | exact nA ok (by omega) (by omega) (by omega)) ?_ | refine hget_n (by first | assumption | exact Ne.symm (by assumption) | exact nA ok (by omega) (by omega) (by omega)) ?_) (by omega) (by first | decide | omega) (by first | assumption | exact aA (by assumption) (by omega)) ?_
  refine x_eqH (mH_c m31.1 m31.2) ?_
  refine x_iload_n 0 dX12_readsCommand_31 rfl rfl ?_
  refine x_bipush (v := 10) dX12_readsCommand_32 rfl ?_
  refine x_icmp_ge 71 dX12_readsCommand_34 (by decide) (fun _ => ?_) (fun z => by first | exact absurd (by rw [h510]; exact Int32.le_refl _) z | exact absurd z (by rw [h510]; exact Int32.le_refl _))
  first | refine x_aload_n 1 dX12_readsCommand_71 rfl rfl ?_ | refine x_aload_nN 1 dX12_readsCommand_71 rfl rfl ?_
  refine x_dup dX12_readsCommand_72 rfl ?_
  refine x_get fX12_260 rfl dX12_readsCommand_73 (by with_reducible repeat first | assumption | exact mH_0 ok | exact mH_1 | exact hset_s | refine mH_o (by first | assumption | exact nA ok (by omega) (by omega) (by omega)) (by first | assumption | exact nA ok (by omega) (by omega) (by omega)) ?_ | refine hget_n (by first | assumption | exact Ne.symm (by assumption) | exact nA ok (by omega) (by omega) (by omega)) ?_) (by rfl) ?_
  refine x_iconst (v := 1) dX12_readsCommand_76 rfl ?_
  refine x_iadd dX12_readsCommand_77 ?_
  rw [nI_1]
  refine x_mput ok fX12_260 rfl rfl rfl rfl dX12_readsCommand_78 (by exact ble rfl) ?_
  refine x_vret rfl dX12_readsCommand_81 ?_
  refine ⟨rfl, _, _, rfl, ?_, ?_⟩
  · intro q hq; refine ⟨?_, ?_, ?_⟩ <;> simp (disch := omega) only [upd_ne]
  · refine ⟨?_, ?_⟩ <;> simp (disch := omega) only [upd_ne, upd_eq]
theorem md_z : ∀ v, v < 5 → ((if mdV v = 2 then (1 : Int32) else 0) = 0 ∧ mdV v = 1) ∨ ((if mdV v = 2 then (1 : Int32) else 0) = 1 ∧ mdV v = 2) := by decide +kernel
theorem nIm {p : Nat} (h : p ≤ 1000) : ¬ nI p = -1 := fun e => absurd (show nI p < 0 by rw [e]; decide) (nI_pos (by omega))
set_option maxRecDepth 100000 in
set_option maxHeartbeats 1000000 in
theorem ct_rc_S {l : Launch} {G : Gl} {h : Hp} {sv rem typ err lin why wha beh its : Int32} {N : Nat → Int32} (ok : Ok G) {tv : Nat → Int32} (htext : h (Ad G 27) = some (eI G 60 tv)) {tx : List Int32} {a : Nat} (hT : ∀ i, i < tx.length → tv i = tx.getD i 0) (h60 : tx.length ≤ 60) (ha60 : a ≤ 60) {kd nb : Nat → Int32} (h30 : h (Ad G 30) = some (eI G 16 kd)) (h31 : h (Ad G 31) = some (eI G 32 nb)) {ci : Nat} (hci : ci < 16) {ml : Nat → Nat} (hml : MlP tx a ml) {v : Nat} (hv : v < 6) (hfull : ml v = wl v) (hnf : ∀ u, u < v → ml u ≠ wl u) (hv5 : v < 5) (hb : a + wl v < tx.length ∧ tx.getD (a + wl v) 0 = 32) {n : Nat} (hn : 0 < n) (D : Dg tx (a + wl v + 1) n 2) (hb2 : (a + wl v + 1 + n) < tx.length ∧ tx.getD (a + wl v + 1 + n) 0 = 32) {n2 : Nat} (hn2 : 0 < n2) (D2 : Dg tx ((a + wl v + 1 + n) + 1) n2 (mdV v)) : Ct l G mX12_readsCommand 8 (0) (0) [.ref (Ad G 20)] (mH G h (eMd G sv rem typ err lin why wha beh its (nI tx.length) (nI (a)) (-1) (nI ci)) N) (fun w h' => w = none ∧ ∃ kd' nb', h' = mH G (hset (hset h (Ad G 30) (eI G 16 kd')) (Ad G 31) (eI G 32 nb')) (eMd G sv rem typ err lin why wha beh its (nI tx.length) (nI ((a + wl v + 1 + n) + 1 + n2)) (-1) (nI (ci + 1))) N ∧ (∀ q, q < ci → kd' q = kd q ∧ nb' (2 * q) = nb (2 * q) ∧ nb' (2 * q + 1) = nb (2 * q + 1)) ∧ kd' ci = nI (5 + v) ∧ nb' (2 * ci) = (nvI tx (a + wl v + 1) n) ∧ nb' (2 * ci + 1) = (nvI tx ((a + wl v + 1 + n) + 1) n2)) := by
  have m30 : Ad G 30 ≠ Ad G 20 ∧ Ad G 30 ≠ Ad G 21 := ⟨nA ok (by omega) (by omega) (by omega), nA ok (by omega) (by omega) (by omega)⟩
  have m31 : Ad G 31 ≠ Ad G 20 ∧ Ad G 31 ≠ Ad G 21 := ⟨nA ok (by omega) (by omega) (by omega), nA ok (by omega) (by omega) (by omega)⟩
  have hmv := (hml v hv).2.1 (wl v - 1) (by have := (wl_t v hv).2.2.1; omega)
  have hw0 := (wl_t v hv).2.2.1
  have hal : a + (wl v - 1) < tx.length := hmv.1
  have haw : a + wl v ≤ 60 := by omega
  have hdl := (D.2.1 (n - 1) (by omega)).1
  have ha2 : (a + wl v + 1 + n) ≤ 60 := by omega
  refine Ct.of (L := [(0, _)]) (by decide) (ble rfl) rfl ?_
  first | refine x_aload_n 0 dX12_readsCommand_0 rfl rfl ?_ | refine x_aload_nN 0 dX12_readsCommand_0 rfl rfl ?_
  refine x_cV1 (As := []) (ct_word_y ok htext hT h60 ha60 hml hv hfull hnf) vX12_257 rfl (x_recv (by with_reducible repeat first | assumption | exact mH_0 ok | exact mH_1 | exact hset_s | refine mH_o (by first | assumption | exact nA ok (by omega) (by omega) (by omega)) (by first | assumption | exact nA ok (by omega) (by omega) (by omega)) ?_ | refine hget_n (by first | assumption | exact Ne.symm (by assumption) | exact nA ok (by omega) (by omega) (by omega)) ?_) rfl) rfl ⟨ble rfl, ble rfl⟩ (ble rfl) dX12_readsCommand_1 rfl ?_
  refine x_istore_n (L' := [(1, _), (0, _)]) dX12_readsCommand_4 rfl (ble rfl) rfl ?_
  first | refine x_aload_n 1 dX12_readsCommand_5 rfl rfl ?_ | refine x_aload_nN 1 dX12_readsCommand_5 rfl rfl ?_
  refine x_get fX12_42 rfl dX12_readsCommand_6 (by with_reducible repeat first | assumption | exact mH_0 ok | exact mH_1 | exact hset_s | refine mH_o (by first | assumption | exact nA ok (by omega) (by omega) (by omega)) (by first | assumption | exact nA ok (by omega) (by omega) (by omega)) ?_ | refine hget_n (by first | assumption | exact Ne.symm (by assumption) | exact nA ok (by omega) (by omega) (by omega)) ?_) (by rfl) ?_
  first | refine x_aload_n 1 dX12_readsCommand_9 rfl rfl ?_ | refine x_aload_nN 1 dX12_readsCommand_9 rfl rfl ?_
  refine x_get fX12_260 rfl dX12_readsCommand_10 (by with_reducible repeat first | assumption | exact mH_0 ok | exact mH_1 | exact hset_s | refine mH_o (by first | assumption | exact nA ok (by omega) (by omega) (by omega)) (by first | assumption | exact nA ok (by omega) (by omega) (by omega)) ?_ | refine hget_n (by first | assumption | exact Ne.symm (by assumption) | exact nA ok (by omega) (by omega) (by omega)) ?_) (by rfl) ?_
  refine x_iload_n 0 dX12_readsCommand_13 rfl rfl ?_
  refine x_iastn dX12_readsCommand_14 (by with_reducible repeat first | assumption | exact mH_0 ok | exact mH_1 | exact hset_s | refine mH_o (by first | assumption | exact nA ok (by omega) (by omega) (by omega)) (by first | assumption | exact nA ok (by omega) (by omega) (by omega)) ?_ | refine hget_n (by first | assumption | exact Ne.symm (by assumption) | exact nA ok (by omega) (by omega) (by omega)) ?_) (by omega) (by first | decide | omega) (by first | assumption | exact aA (by assumption) (by omega)) ?_
  refine x_eqH (mH_c m30.1 m30.2) ?_
  first | refine x_aload_n 1 dX12_readsCommand_15 rfl rfl ?_ | refine x_aload_nN 1 dX12_readsCommand_15 rfl rfl ?_
  refine x_get fX12_45 rfl dX12_readsCommand_16 (by with_reducible repeat first | assumption | exact mH_0 ok | exact mH_1 | exact hset_s | refine mH_o (by first | assumption | exact nA ok (by omega) (by omega) (by omega)) (by first | assumption | exact nA ok (by omega) (by omega) (by omega)) ?_ | refine hget_n (by first | assumption | exact Ne.symm (by assumption) | exact nA ok (by omega) (by omega) (by omega)) ?_) (by rfl) ?_
  refine x_iconst (v := 2) dX12_readsCommand_19 rfl ?_
  first | refine x_aload_n 1 dX12_readsCommand_20 rfl rfl ?_ | refine x_aload_nN 1 dX12_readsCommand_20 rfl rfl ?_
  refine x_get fX12_260 rfl dX12_readsCommand_21 (by with_reducible repeat first | assumption | exact mH_0 ok | exact mH_1 | exact hset_s | refine mH_o (by first | assumption | exact nA ok (by omega) (by omega) (by omega)) (by first | assumption | exact nA ok (by omega) (by omega) (by omega)) ?_ | refine hget_n (by first | assumption | exact Ne.symm (by assumption) | exact nA ok (by omega) (by omega) (by omega)) ?_) (by rfl) ?_
  refine x_imul dX12_readsCommand_24 ?_
  rw [show (2 : Int32) = nI 2 from rfl, pk_mul]
  first | refine x_aload_n 1 dX12_readsCommand_25 rfl rfl ?_ | refine x_aload_nN 1 dX12_readsCommand_25 rfl rfl ?_
  refine x_iconst (v := 1) dX12_readsCommand_26 rfl ?_
  refine x_cV1 (As := [.int _]) (ct_num_ok ok (by with_reducible repeat first | assumption | exact mH_0 ok | exact mH_1 | exact hset_s | refine mH_o (by first | assumption | exact nA ok (by omega) (by omega) (by omega)) (by first | assumption | exact nA ok (by omega) (by omega) (by omega)) ?_ | refine hget_n (by first | assumption | exact Ne.symm (by assumption) | exact nA ok (by omega) (by omega) (by omega)) ?_) hT h60 (a := a + wl v) (by omega) hb hn D (Or.inr ⟨rfl, rfl⟩)) vX12_263 rfl (x_recv (by with_reducible repeat first | assumption | exact mH_0 ok | exact mH_1 | exact hset_s | refine mH_o (by first | assumption | exact nA ok (by omega) (by omega) (by omega)) (by first | assumption | exact nA ok (by omega) (by omega) (by omega)) ?_ | refine hget_n (by first | assumption | exact Ne.symm (by assumption) | exact nA ok (by omega) (by omega) (by omega)) ?_) rfl) rfl ⟨ble rfl, ble rfl⟩ (ble rfl) dX12_readsCommand_27 rfl ?_
  refine x_iastn dX12_readsCommand_30 (by with_reducible repeat first | assumption | exact mH_0 ok | exact mH_1 | exact hset_s | refine mH_o (by first | assumption | exact nA ok (by omega) (by omega) (by omega)) (by first | assumption | exact nA ok (by omega) (by omega) (by omega)) ?_ | refine hget_n (by first | assumption | exact Ne.symm (by assumption) | exact nA ok (by omega) (by omega) (by omega)) ?_) (by omega) (by first | decide | omega) (by first | assumption | exact aA (by assumption) (by omega)) ?_
  refine x_eqH (mH_c m31.1 m31.2) ?_
  refine x_iload_n 0 dX12_readsCommand_31 rfl rfl ?_
  refine x_bipush (v := 10) dX12_readsCommand_32 rfl ?_
  refine x_icmp_ge 71 dX12_readsCommand_34 (by decide) (fun z => by first | exact absurd z (show ¬ (10 : Int32) ≤ nI (5 + v) from nI_ge (b := 10) (a := 5 + v) (by omega) (by omega)) | exact absurd (show ¬ (10 : Int32) ≤ nI (5 + v) from nI_ge (b := 10) (a := 5 + v) (by omega) (by omega)) z) (fun _ => ?_)
  first | refine x_aload_n 1 dX12_readsCommand_37 rfl rfl ?_ | refine x_aload_nN 1 dX12_readsCommand_37 rfl rfl ?_
  refine x_get fX12_45 rfl dX12_readsCommand_38 (by with_reducible repeat first | assumption | exact mH_0 ok | exact mH_1 | exact hset_s | refine mH_o (by first | assumption | exact nA ok (by omega) (by omega) (by omega)) (by first | assumption | exact nA ok (by omega) (by omega) (by omega)) ?_ | refine hget_n (by first | assumption | exact Ne.symm (by assumption) | exact nA ok (by omega) (by omega) (by omega)) ?_) (by rfl) ?_
  refine x_iconst (v := 2) dX12_readsCommand_41 rfl ?_
  first | refine x_aload_n 1 dX12_readsCommand_42 rfl rfl ?_ | refine x_aload_nN 1 dX12_readsCommand_42 rfl rfl ?_
  refine x_get fX12_260 rfl dX12_readsCommand_43 (by with_reducible repeat first | assumption | exact mH_0 ok | exact mH_1 | exact hset_s | refine mH_o (by first | assumption | exact nA ok (by omega) (by omega) (by omega)) (by first | assumption | exact nA ok (by omega) (by omega) (by omega)) ?_ | refine hget_n (by first | assumption | exact Ne.symm (by assumption) | exact nA ok (by omega) (by omega) (by omega)) ?_) (by rfl) ?_
  refine x_imul dX12_readsCommand_46 ?_
  rw [show (2 : Int32) = nI 2 from rfl, pk_mul]
  refine x_iconst (v := 1) dX12_readsCommand_47 rfl ?_
  refine x_iadd dX12_readsCommand_48 ?_
  rw [nI_1]
  first | refine x_aload_n 1 dX12_readsCommand_49 rfl rfl ?_ | refine x_aload_nN 1 dX12_readsCommand_49 rfl rfl ?_
  refine x_iload_n 0 dX12_readsCommand_50 rfl rfl ?_
  refine x_bipush (v := 6) dX12_readsCommand_51 rfl ?_
  have J67 : ∀ z : Int32, z = (if mdV v = 2 then 1 else 0) → XX l G mX12_readsCommand (Rm 8 (0) (0)) (KQ G (Rm 8 (0) (0)) (fun w h' => w = none ∧ ∃ kd' nb', h' = mH G (hset (hset h (Ad G 30) (eI G 16 kd')) (Ad G 31) (eI G 32 nb')) (eMd G sv rem typ err lin why wha beh its (nI tx.length) (nI ((a + wl v + 1 + n) + 1 + n2)) (-1) (nI (ci + 1))) N ∧ (∀ q, q < ci → kd' q = kd q ∧ nb' (2 * q) = nb (2 * q) ∧ nb' (2 * q + 1) = nb (2 * q + 1)) ∧ kd' ci = nI (5 + v) ∧ nb' (2 * ci) = (nvI tx (a + wl v + 1) n) ∧ nb' (2 * ci + 1) = (nvI tx ((a + wl v + 1 + n) + 1) n2))) (0) (0) 67 [(1, .int (nI (5 + v))), (0, .ref (Ad G 20))] [.int z, .ref (Ad G 20), .int (nI (2 * ci + 1)), .ref (Ad G 31)] (mH G (hset (hset h (Ad G 30) (eI G 16 (upd kd ci (nI (5 + v))))) (Ad G 31) (eI G 32 (upd nb (2 * ci) (nvI tx (a + wl v + 1) n)))) (eMd G sv rem typ err lin why wha beh its (nI tx.length) (nI (a + wl v + 1 + n)) (-1) (nI ci)) N) := by
    intro z hz
    subst hz
    refine x_cV1 (As := [.int _]) (ct_num_ok ok (by with_reducible repeat first | assumption | exact mH_0 ok | exact mH_1 | exact hset_s | refine mH_o (by first | assumption | exact nA ok (by omega) (by omega) (by omega)) (by first | assumption | exact nA ok (by omega) (by omega) (by omega)) ?_ | refine hget_n (by first | assumption | exact Ne.symm (by assumption) | exact nA ok (by omega) (by omega) (by omega)) ?_) hT h60 (a := (a + wl v + 1 + n)) ha2 hb2 hn2 D2 (md_z v hv5)) vX12_263 rfl (x_recv (by with_reducible repeat first | assumption | exact mH_0 ok | exact mH_1 | exact hset_s | refine mH_o (by first | assumption | exact nA ok (by omega) (by omega) (by omega)) (by first | assumption | exact nA ok (by omega) (by omega) (by omega)) ?_ | refine hget_n (by first | assumption | exact Ne.symm (by assumption) | exact nA ok (by omega) (by omega) (by omega)) ?_) rfl) rfl ⟨ble rfl, ble rfl⟩ (ble rfl) dX12_readsCommand_67 rfl ?_
    refine x_iastn dX12_readsCommand_70 (by with_reducible repeat first | assumption | exact mH_0 ok | exact mH_1 | exact hset_s | refine mH_o (by first | assumption | exact nA ok (by omega) (by omega) (by omega)) (by first | assumption | exact nA ok (by omega) (by omega) (by omega)) ?_ | refine hget_n (by first | assumption | exact Ne.symm (by assumption) | exact nA ok (by omega) (by omega) (by omega)) ?_) (by omega) (by first | decide | omega) (by first | assumption | exact aA (by assumption) (by omega)) ?_
    first | (refine x_eqH (h' := mH G (hset (hset h (Ad G 30) (eI G 16 (upd kd ci (nI (5 + v))))) (Ad G 31) (eI G 32 (upd (upd nb (2 * ci) (nvI tx (a + wl v + 1) n)) (2 * ci + 1) (nvI tx ((a + wl v + 1 + n) + 1) n2)))) (eMd G sv rem typ err lin why wha beh its (nI tx.length) (nI ((a + wl v + 1 + n) + 1 + n2)) (-1) (nI ci)) N) ((mH_c m31.1 m31.2).trans (by rw [hset_2])) ?_) | skip
    first | refine x_aload_n 1 dX12_readsCommand_71 rfl rfl ?_ | refine x_aload_nN 1 dX12_readsCommand_71 rfl rfl ?_
    refine x_dup dX12_readsCommand_72 rfl ?_
    refine x_get fX12_260 rfl dX12_readsCommand_73 (by with_reducible repeat first | assumption | exact mH_0 ok | exact mH_1 | exact hset_s | refine mH_o (by first | assumption | exact nA ok (by omega) (by omega) (by omega)) (by first | assumption | exact nA ok (by omega) (by omega) (by omega)) ?_ | refine hget_n (by first | assumption | exact Ne.symm (by assumption) | exact nA ok (by omega) (by omega) (by omega)) ?_) (by rfl) ?_
    refine x_iconst (v := 1) dX12_readsCommand_76 rfl ?_
    refine x_iadd dX12_readsCommand_77 ?_
    rw [nI_1]
    refine x_mput ok fX12_260 rfl rfl rfl rfl dX12_readsCommand_78 (by exact ble rfl) ?_
    refine x_vret rfl dX12_readsCommand_81 ?_
    refine ⟨rfl, _, _, rfl, ?_, ?_⟩
    · intro q hq; refine ⟨?_, ?_, ?_⟩ <;> simp (disch := omega) only [upd_ne]
    · refine ⟨?_, ?_, ?_⟩ <;> simp (disch := omega) only [upd_ne, upd_eq]
  refine x_icmp_eq 62 dX12_readsCommand_53 (by decide) (fun c53 => ?_) (fun c53 => ?_)
  · refine x_iconst (v := 1) dX12_readsCommand_62 rfl ?_
    refine x_goto 67 dX12_readsCommand_63 (by decide) ?_
    refine x_locs (L' := [(1, _), (0, _)]) [0, 1] rfl ?_
    refine J67 _ ?_
    rcases (show v = 0 ∨ v = 1 ∨ v = 2 ∨ v = 3 ∨ v = 4 by omega) with rfl | rfl | rfl | rfl | rfl <;> first | exact absurd rfl c53 | exact absurd c53 (by decide) | exact absurd rfl c59 | exact absurd c59 (by decide) | rfl
  · refine x_iload_n 0 dX12_readsCommand_56 rfl rfl ?_
    refine x_bipush (v := 8) dX12_readsCommand_57 rfl ?_
    refine x_icmp_ne 66 dX12_readsCommand_59 (by decide) (fun c59 => ?_) (fun c59 => ?_)
    · refine x_iconst (v := 0) dX12_readsCommand_66 rfl ?_
      refine x_locs (L' := [(1, _), (0, _)]) [0, 1] rfl ?_
      refine J67 _ ?_
      rcases (show v = 0 ∨ v = 1 ∨ v = 2 ∨ v = 3 ∨ v = 4 by omega) with rfl | rfl | rfl | rfl | rfl <;> first | exact absurd rfl c53 | exact absurd c53 (by decide) | exact absurd rfl c59 | exact absurd c59 (by decide) | rfl
    · refine x_iconst (v := 1) dX12_readsCommand_62 rfl ?_
      refine x_goto 67 dX12_readsCommand_63 (by decide) ?_
      refine x_locs (L' := [(1, _), (0, _)]) [0, 1] rfl ?_
      refine J67 _ ?_
      rcases (show v = 0 ∨ v = 1 ∨ v = 2 ∨ v = 3 ∨ v = 4 by omega) with rfl | rfl | rfl | rfl | rfl <;> first | exact absurd rfl c53 | exact absurd c53 (by decide) | exact absurd rfl c59 | exact absurd c59 (by decide) | rfl
set_option maxRecDepth 100000 in
set_option maxHeartbeats 1000000 in
theorem ct_rc_D {l : Launch} {G : Gl} {h : Hp} {sv rem typ err lin why wha beh its : Int32} {N : Nat → Int32} (ok : Ok G) {tv : Nat → Int32} (htext : h (Ad G 27) = some (eI G 60 tv)) {tx : List Int32} {a : Nat} (hT : ∀ i, i < tx.length → tv i = tx.getD i 0) (h60 : tx.length ≤ 60) (ha60 : a ≤ 60) {kd nb : Nat → Int32} (h30 : h (Ad G 30) = some (eI G 16 kd)) (h31 : h (Ad G 31) = some (eI G 32 nb)) {ci : Nat} (hci : ci < 16) {ml : Nat → Nat} (hml : MlP tx a ml) {v : Nat} (hv : v < 6) (hfull : ml v = wl v) (hnf : ∀ u, u < v → ml u ≠ wl u) (hv5 : v < 5) (hb : a + wl v < tx.length ∧ tx.getD (a + wl v) 0 = 32) {n : Nat} (hn : 0 < n) (D : Dg tx (a + wl v + 1) n 2) (hb2 : ¬ ((a + wl v + 1 + n) < tx.length ∧ tx.getD (a + wl v + 1 + n) 0 = 32)) : Ct l G mX12_readsCommand 8 (0) (0) [.ref (Ad G 20)] (mH G h (eMd G sv rem typ err lin why wha beh its (nI tx.length) (nI (a)) (-1) (nI ci)) N) (fun w h' => w = none ∧ ∃ kd' nb', h' = mH G (hset (hset h (Ad G 30) (eI G 16 kd')) (Ad G 31) (eI G 32 nb')) (eMd G sv rem typ err lin why wha beh its (nI tx.length) (nI ((a + wl v + 1 + n))) (nI (a + wl v + 1 + n)) (nI (ci + 1))) N ∧ (∀ q, q < ci → kd' q = kd q ∧ nb' (2 * q) = nb (2 * q) ∧ nb' (2 * q + 1) = nb (2 * q + 1)) ∧ True) := by
  have m30 : Ad G 30 ≠ Ad G 20 ∧ Ad G 30 ≠ Ad G 21 := ⟨nA ok (by omega) (by omega) (by omega), nA ok (by omega) (by omega) (by omega)⟩
  have m31 : Ad G 31 ≠ Ad G 20 ∧ Ad G 31 ≠ Ad G 21 := ⟨nA ok (by omega) (by omega) (by omega), nA ok (by omega) (by omega) (by omega)⟩
  have hmv := (hml v hv).2.1 (wl v - 1) (by have := (wl_t v hv).2.2.1; omega)
  have hw0 := (wl_t v hv).2.2.1
  have hal : a + (wl v - 1) < tx.length := hmv.1
  have haw : a + wl v ≤ 60 := by omega
  have hdl := (D.2.1 (n - 1) (by omega)).1
  have ha2 : (a + wl v + 1 + n) ≤ 60 := by omega
  refine Ct.of (L := [(0, _)]) (by decide) (ble rfl) rfl ?_
  first | refine x_aload_n 0 dX12_readsCommand_0 rfl rfl ?_ | refine x_aload_nN 0 dX12_readsCommand_0 rfl rfl ?_
  refine x_cV1 (As := []) (ct_word_y ok htext hT h60 ha60 hml hv hfull hnf) vX12_257 rfl (x_recv (by with_reducible repeat first | assumption | exact mH_0 ok | exact mH_1 | exact hset_s | refine mH_o (by first | assumption | exact nA ok (by omega) (by omega) (by omega)) (by first | assumption | exact nA ok (by omega) (by omega) (by omega)) ?_ | refine hget_n (by first | assumption | exact Ne.symm (by assumption) | exact nA ok (by omega) (by omega) (by omega)) ?_) rfl) rfl ⟨ble rfl, ble rfl⟩ (ble rfl) dX12_readsCommand_1 rfl ?_
  refine x_istore_n (L' := [(1, _), (0, _)]) dX12_readsCommand_4 rfl (ble rfl) rfl ?_
  first | refine x_aload_n 1 dX12_readsCommand_5 rfl rfl ?_ | refine x_aload_nN 1 dX12_readsCommand_5 rfl rfl ?_
  refine x_get fX12_42 rfl dX12_readsCommand_6 (by with_reducible repeat first | assumption | exact mH_0 ok | exact mH_1 | exact hset_s | refine mH_o (by first | assumption | exact nA ok (by omega) (by omega) (by omega)) (by first | assumption | exact nA ok (by omega) (by omega) (by omega)) ?_ | refine hget_n (by first | assumption | exact Ne.symm (by assumption) | exact nA ok (by omega) (by omega) (by omega)) ?_) (by rfl) ?_
  first | refine x_aload_n 1 dX12_readsCommand_9 rfl rfl ?_ | refine x_aload_nN 1 dX12_readsCommand_9 rfl rfl ?_
  refine x_get fX12_260 rfl dX12_readsCommand_10 (by with_reducible repeat first | assumption | exact mH_0 ok | exact mH_1 | exact hset_s | refine mH_o (by first | assumption | exact nA ok (by omega) (by omega) (by omega)) (by first | assumption | exact nA ok (by omega) (by omega) (by omega)) ?_ | refine hget_n (by first | assumption | exact Ne.symm (by assumption) | exact nA ok (by omega) (by omega) (by omega)) ?_) (by rfl) ?_
  refine x_iload_n 0 dX12_readsCommand_13 rfl rfl ?_
  refine x_iastn dX12_readsCommand_14 (by with_reducible repeat first | assumption | exact mH_0 ok | exact mH_1 | exact hset_s | refine mH_o (by first | assumption | exact nA ok (by omega) (by omega) (by omega)) (by first | assumption | exact nA ok (by omega) (by omega) (by omega)) ?_ | refine hget_n (by first | assumption | exact Ne.symm (by assumption) | exact nA ok (by omega) (by omega) (by omega)) ?_) (by omega) (by first | decide | omega) (by first | assumption | exact aA (by assumption) (by omega)) ?_
  refine x_eqH (mH_c m30.1 m30.2) ?_
  first | refine x_aload_n 1 dX12_readsCommand_15 rfl rfl ?_ | refine x_aload_nN 1 dX12_readsCommand_15 rfl rfl ?_
  refine x_get fX12_45 rfl dX12_readsCommand_16 (by with_reducible repeat first | assumption | exact mH_0 ok | exact mH_1 | exact hset_s | refine mH_o (by first | assumption | exact nA ok (by omega) (by omega) (by omega)) (by first | assumption | exact nA ok (by omega) (by omega) (by omega)) ?_ | refine hget_n (by first | assumption | exact Ne.symm (by assumption) | exact nA ok (by omega) (by omega) (by omega)) ?_) (by rfl) ?_
  refine x_iconst (v := 2) dX12_readsCommand_19 rfl ?_
  first | refine x_aload_n 1 dX12_readsCommand_20 rfl rfl ?_ | refine x_aload_nN 1 dX12_readsCommand_20 rfl rfl ?_
  refine x_get fX12_260 rfl dX12_readsCommand_21 (by with_reducible repeat first | assumption | exact mH_0 ok | exact mH_1 | exact hset_s | refine mH_o (by first | assumption | exact nA ok (by omega) (by omega) (by omega)) (by first | assumption | exact nA ok (by omega) (by omega) (by omega)) ?_ | refine hget_n (by first | assumption | exact Ne.symm (by assumption) | exact nA ok (by omega) (by omega) (by omega)) ?_) (by rfl) ?_
  refine x_imul dX12_readsCommand_24 ?_
  rw [show (2 : Int32) = nI 2 from rfl, pk_mul]
  first | refine x_aload_n 1 dX12_readsCommand_25 rfl rfl ?_ | refine x_aload_nN 1 dX12_readsCommand_25 rfl rfl ?_
  refine x_iconst (v := 1) dX12_readsCommand_26 rfl ?_
  refine x_cV1 (As := [.int _]) (ct_num_ok ok (by with_reducible repeat first | assumption | exact mH_0 ok | exact mH_1 | exact hset_s | refine mH_o (by first | assumption | exact nA ok (by omega) (by omega) (by omega)) (by first | assumption | exact nA ok (by omega) (by omega) (by omega)) ?_ | refine hget_n (by first | assumption | exact Ne.symm (by assumption) | exact nA ok (by omega) (by omega) (by omega)) ?_) hT h60 (a := a + wl v) (by omega) hb hn D (Or.inr ⟨rfl, rfl⟩)) vX12_263 rfl (x_recv (by with_reducible repeat first | assumption | exact mH_0 ok | exact mH_1 | exact hset_s | refine mH_o (by first | assumption | exact nA ok (by omega) (by omega) (by omega)) (by first | assumption | exact nA ok (by omega) (by omega) (by omega)) ?_ | refine hget_n (by first | assumption | exact Ne.symm (by assumption) | exact nA ok (by omega) (by omega) (by omega)) ?_) rfl) rfl ⟨ble rfl, ble rfl⟩ (ble rfl) dX12_readsCommand_27 rfl ?_
  refine x_iastn dX12_readsCommand_30 (by with_reducible repeat first | assumption | exact mH_0 ok | exact mH_1 | exact hset_s | refine mH_o (by first | assumption | exact nA ok (by omega) (by omega) (by omega)) (by first | assumption | exact nA ok (by omega) (by omega) (by omega)) ?_ | refine hget_n (by first | assumption | exact Ne.symm (by assumption) | exact nA ok (by omega) (by omega) (by omega)) ?_) (by omega) (by first | decide | omega) (by first | assumption | exact aA (by assumption) (by omega)) ?_
  refine x_eqH (mH_c m31.1 m31.2) ?_
  refine x_iload_n 0 dX12_readsCommand_31 rfl rfl ?_
  refine x_bipush (v := 10) dX12_readsCommand_32 rfl ?_
  refine x_icmp_ge 71 dX12_readsCommand_34 (by decide) (fun z => by first | exact absurd z (show ¬ (10 : Int32) ≤ nI (5 + v) from nI_ge (b := 10) (a := 5 + v) (by omega) (by omega)) | exact absurd (show ¬ (10 : Int32) ≤ nI (5 + v) from nI_ge (b := 10) (a := 5 + v) (by omega) (by omega)) z) (fun _ => ?_)
  first | refine x_aload_n 1 dX12_readsCommand_37 rfl rfl ?_ | refine x_aload_nN 1 dX12_readsCommand_37 rfl rfl ?_
  refine x_get fX12_45 rfl dX12_readsCommand_38 (by with_reducible repeat first | assumption | exact mH_0 ok | exact mH_1 | exact hset_s | refine mH_o (by first | assumption | exact nA ok (by omega) (by omega) (by omega)) (by first | assumption | exact nA ok (by omega) (by omega) (by omega)) ?_ | refine hget_n (by first | assumption | exact Ne.symm (by assumption) | exact nA ok (by omega) (by omega) (by omega)) ?_) (by rfl) ?_
  refine x_iconst (v := 2) dX12_readsCommand_41 rfl ?_
  first | refine x_aload_n 1 dX12_readsCommand_42 rfl rfl ?_ | refine x_aload_nN 1 dX12_readsCommand_42 rfl rfl ?_
  refine x_get fX12_260 rfl dX12_readsCommand_43 (by with_reducible repeat first | assumption | exact mH_0 ok | exact mH_1 | exact hset_s | refine mH_o (by first | assumption | exact nA ok (by omega) (by omega) (by omega)) (by first | assumption | exact nA ok (by omega) (by omega) (by omega)) ?_ | refine hget_n (by first | assumption | exact Ne.symm (by assumption) | exact nA ok (by omega) (by omega) (by omega)) ?_) (by rfl) ?_
  refine x_imul dX12_readsCommand_46 ?_
  rw [show (2 : Int32) = nI 2 from rfl, pk_mul]
  refine x_iconst (v := 1) dX12_readsCommand_47 rfl ?_
  refine x_iadd dX12_readsCommand_48 ?_
  rw [nI_1]
  first | refine x_aload_n 1 dX12_readsCommand_49 rfl rfl ?_ | refine x_aload_nN 1 dX12_readsCommand_49 rfl rfl ?_
  refine x_iload_n 0 dX12_readsCommand_50 rfl rfl ?_
  refine x_bipush (v := 6) dX12_readsCommand_51 rfl ?_
  have J67 : ∀ z : Int32, z = (if mdV v = 2 then 1 else 0) → XX l G mX12_readsCommand (Rm 8 (0) (0)) (KQ G (Rm 8 (0) (0)) (fun w h' => w = none ∧ ∃ kd' nb', h' = mH G (hset (hset h (Ad G 30) (eI G 16 kd')) (Ad G 31) (eI G 32 nb')) (eMd G sv rem typ err lin why wha beh its (nI tx.length) (nI ((a + wl v + 1 + n))) (nI (a + wl v + 1 + n)) (nI (ci + 1))) N ∧ (∀ q, q < ci → kd' q = kd q ∧ nb' (2 * q) = nb (2 * q) ∧ nb' (2 * q + 1) = nb (2 * q + 1)) ∧ True)) (0) (0) 67 [(1, .int (nI (5 + v))), (0, .ref (Ad G 20))] [.int z, .ref (Ad G 20), .int (nI (2 * ci + 1)), .ref (Ad G 31)] (mH G (hset (hset h (Ad G 30) (eI G 16 (upd kd ci (nI (5 + v))))) (Ad G 31) (eI G 32 (upd nb (2 * ci) (nvI tx (a + wl v + 1) n)))) (eMd G sv rem typ err lin why wha beh its (nI tx.length) (nI (a + wl v + 1 + n)) (-1) (nI ci)) N) := by
    intro z hz
    subst hz
    refine x_cV1 (As := [.int _]) (ct_num_b ok (by with_reducible repeat first | assumption | exact mH_0 ok | exact mH_1 | exact hset_s | refine mH_o (by first | assumption | exact nA ok (by omega) (by omega) (by omega)) (by first | assumption | exact nA ok (by omega) (by omega) (by omega)) ?_ | refine hget_n (by first | assumption | exact Ne.symm (by assumption) | exact nA ok (by omega) (by omega) (by omega)) ?_) hT h60 (a := (a + wl v + 1 + n)) ha2 hb2) vX12_263 rfl (x_recv (by with_reducible repeat first | assumption | exact mH_0 ok | exact mH_1 | exact hset_s | refine mH_o (by first | assumption | exact nA ok (by omega) (by omega) (by omega)) (by first | assumption | exact nA ok (by omega) (by omega) (by omega)) ?_ | refine hget_n (by first | assumption | exact Ne.symm (by assumption) | exact nA ok (by omega) (by omega) (by omega)) ?_) rfl) rfl ⟨ble rfl, ble rfl⟩ (ble rfl) dX12_readsCommand_67 rfl ?_
    refine x_iastn dX12_readsCommand_70 (by with_reducible repeat first | assumption | exact mH_0 ok | exact mH_1 | exact hset_s | refine mH_o (by first | assumption | exact nA ok (by omega) (by omega) (by omega)) (by first | assumption | exact nA ok (by omega) (by omega) (by omega)) ?_ | refine hget_n (by first | assumption | exact Ne.symm (by assumption) | exact nA ok (by omega) (by omega) (by omega)) ?_) (by omega) (by first | decide | omega) (by first | assumption | exact aA (by assumption) (by omega)) ?_
    first | (refine x_eqH (h' := mH G (hset (hset h (Ad G 30) (eI G 16 (upd kd ci (nI (5 + v))))) (Ad G 31) (eI G 32 (upd (upd nb (2 * ci) (nvI tx (a + wl v + 1) n)) (2 * ci + 1) 0))) (eMd G sv rem typ err lin why wha beh its (nI tx.length) (nI ((a + wl v + 1 + n))) (nI (a + wl v + 1 + n)) (nI ci)) N) ((mH_c m31.1 m31.2).trans (by rw [hset_2])) ?_) | skip
    first | refine x_aload_n 1 dX12_readsCommand_71 rfl rfl ?_ | refine x_aload_nN 1 dX12_readsCommand_71 rfl rfl ?_
    refine x_dup dX12_readsCommand_72 rfl ?_
    refine x_get fX12_260 rfl dX12_readsCommand_73 (by with_reducible repeat first | assumption | exact mH_0 ok | exact mH_1 | exact hset_s | refine mH_o (by first | assumption | exact nA ok (by omega) (by omega) (by omega)) (by first | assumption | exact nA ok (by omega) (by omega) (by omega)) ?_ | refine hget_n (by first | assumption | exact Ne.symm (by assumption) | exact nA ok (by omega) (by omega) (by omega)) ?_) (by rfl) ?_
    refine x_iconst (v := 1) dX12_readsCommand_76 rfl ?_
    refine x_iadd dX12_readsCommand_77 ?_
    rw [nI_1]
    refine x_mput ok fX12_260 rfl rfl rfl rfl dX12_readsCommand_78 (by exact ble rfl) ?_
    refine x_vret rfl dX12_readsCommand_81 ?_
    refine ⟨rfl, _, _, rfl, ?_, ?_⟩
    · intro q hq; refine ⟨?_, ?_, ?_⟩ <;> simp (disch := omega) only [upd_ne]
    · exact trivial
  refine x_icmp_eq 62 dX12_readsCommand_53 (by decide) (fun c53 => ?_) (fun c53 => ?_)
  · refine x_iconst (v := 1) dX12_readsCommand_62 rfl ?_
    refine x_goto 67 dX12_readsCommand_63 (by decide) ?_
    refine x_locs (L' := [(1, _), (0, _)]) [0, 1] rfl ?_
    refine J67 _ ?_
    rcases (show v = 0 ∨ v = 1 ∨ v = 2 ∨ v = 3 ∨ v = 4 by omega) with rfl | rfl | rfl | rfl | rfl <;> first | exact absurd rfl c53 | exact absurd c53 (by decide) | exact absurd rfl c59 | exact absurd c59 (by decide) | rfl
  · refine x_iload_n 0 dX12_readsCommand_56 rfl rfl ?_
    refine x_bipush (v := 8) dX12_readsCommand_57 rfl ?_
    refine x_icmp_ne 66 dX12_readsCommand_59 (by decide) (fun c59 => ?_) (fun c59 => ?_)
    · refine x_iconst (v := 0) dX12_readsCommand_66 rfl ?_
      refine x_locs (L' := [(1, _), (0, _)]) [0, 1] rfl ?_
      refine J67 _ ?_
      rcases (show v = 0 ∨ v = 1 ∨ v = 2 ∨ v = 3 ∨ v = 4 by omega) with rfl | rfl | rfl | rfl | rfl <;> first | exact absurd rfl c53 | exact absurd c53 (by decide) | exact absurd rfl c59 | exact absurd c59 (by decide) | rfl
    · refine x_iconst (v := 1) dX12_readsCommand_62 rfl ?_
      refine x_goto 67 dX12_readsCommand_63 (by decide) ?_
      refine x_locs (L' := [(1, _), (0, _)]) [0, 1] rfl ?_
      refine J67 _ ?_
      rcases (show v = 0 ∨ v = 1 ∨ v = 2 ∨ v = 3 ∨ v = 4 by omega) with rfl | rfl | rfl | rfl | rfl <;> first | exact absurd rfl c53 | exact absurd c53 (by decide) | exact absurd rfl c59 | exact absurd c59 (by decide) | rfl
set_option maxRecDepth 100000 in
set_option maxHeartbeats 1000000 in
theorem ct_rc_E {l : Launch} {G : Gl} {h : Hp} {sv rem typ err lin why wha beh its : Int32} {N : Nat → Int32} (ok : Ok G) {tv : Nat → Int32} (htext : h (Ad G 27) = some (eI G 60 tv)) {tx : List Int32} {a : Nat} (hT : ∀ i, i < tx.length → tv i = tx.getD i 0) (h60 : tx.length ≤ 60) (ha60 : a ≤ 60) {kd nb : Nat → Int32} (h30 : h (Ad G 30) = some (eI G 16 kd)) (h31 : h (Ad G 31) = some (eI G 32 nb)) {ci : Nat} (hci : ci < 16) {ml : Nat → Nat} (hml : MlP tx a ml) {v : Nat} (hv : v < 6) (hfull : ml v = wl v) (hnf : ∀ u, u < v → ml u ≠ wl u) (hv5 : v < 5) (hb : a + wl v < tx.length ∧ tx.getD (a + wl v) 0 = 32) {n : Nat} (hn : 0 < n) (D : Dg tx (a + wl v + 1) n 2) (hb2 : (a + wl v + 1 + n) < tx.length ∧ tx.getD (a + wl v + 1 + n) 0 = 32) (hd2 : ¬ dgt tx ((a + wl v + 1 + n) + 1)) : Ct l G mX12_readsCommand 8 (0) (0) [.ref (Ad G 20)] (mH G h (eMd G sv rem typ err lin why wha beh its (nI tx.length) (nI (a)) (-1) (nI ci)) N) (fun w h' => w = none ∧ ∃ kd' nb', h' = mH G (hset (hset h (Ad G 30) (eI G 16 kd')) (Ad G 31) (eI G 32 nb')) (eMd G sv rem typ err lin why wha beh its (nI tx.length) (nI ((a + wl v + 1 + n) + 1)) (nI ((a + wl v + 1 + n) + 1)) (nI (ci + 1))) N ∧ (∀ q, q < ci → kd' q = kd q ∧ nb' (2 * q) = nb (2 * q) ∧ nb' (2 * q + 1) = nb (2 * q + 1)) ∧ True) := by
  have m30 : Ad G 30 ≠ Ad G 20 ∧ Ad G 30 ≠ Ad G 21 := ⟨nA ok (by omega) (by omega) (by omega), nA ok (by omega) (by omega) (by omega)⟩
  have m31 : Ad G 31 ≠ Ad G 20 ∧ Ad G 31 ≠ Ad G 21 := ⟨nA ok (by omega) (by omega) (by omega), nA ok (by omega) (by omega) (by omega)⟩
  have hmv := (hml v hv).2.1 (wl v - 1) (by have := (wl_t v hv).2.2.1; omega)
  have hw0 := (wl_t v hv).2.2.1
  have hal : a + (wl v - 1) < tx.length := hmv.1
  have haw : a + wl v ≤ 60 := by omega
  have hdl := (D.2.1 (n - 1) (by omega)).1
  have ha2 : (a + wl v + 1 + n) ≤ 60 := by omega
  refine Ct.of (L := [(0, _)]) (by decide) (ble rfl) rfl ?_
  first | refine x_aload_n 0 dX12_readsCommand_0 rfl rfl ?_ | refine x_aload_nN 0 dX12_readsCommand_0 rfl rfl ?_
  refine x_cV1 (As := []) (ct_word_y ok htext hT h60 ha60 hml hv hfull hnf) vX12_257 rfl (x_recv (by with_reducible repeat first | assumption | exact mH_0 ok | exact mH_1 | exact hset_s | refine mH_o (by first | assumption | exact nA ok (by omega) (by omega) (by omega)) (by first | assumption | exact nA ok (by omega) (by omega) (by omega)) ?_ | refine hget_n (by first | assumption | exact Ne.symm (by assumption) | exact nA ok (by omega) (by omega) (by omega)) ?_) rfl) rfl ⟨ble rfl, ble rfl⟩ (ble rfl) dX12_readsCommand_1 rfl ?_
  refine x_istore_n (L' := [(1, _), (0, _)]) dX12_readsCommand_4 rfl (ble rfl) rfl ?_
  first | refine x_aload_n 1 dX12_readsCommand_5 rfl rfl ?_ | refine x_aload_nN 1 dX12_readsCommand_5 rfl rfl ?_
  refine x_get fX12_42 rfl dX12_readsCommand_6 (by with_reducible repeat first | assumption | exact mH_0 ok | exact mH_1 | exact hset_s | refine mH_o (by first | assumption | exact nA ok (by omega) (by omega) (by omega)) (by first | assumption | exact nA ok (by omega) (by omega) (by omega)) ?_ | refine hget_n (by first | assumption | exact Ne.symm (by assumption) | exact nA ok (by omega) (by omega) (by omega)) ?_) (by rfl) ?_
  first | refine x_aload_n 1 dX12_readsCommand_9 rfl rfl ?_ | refine x_aload_nN 1 dX12_readsCommand_9 rfl rfl ?_
  refine x_get fX12_260 rfl dX12_readsCommand_10 (by with_reducible repeat first | assumption | exact mH_0 ok | exact mH_1 | exact hset_s | refine mH_o (by first | assumption | exact nA ok (by omega) (by omega) (by omega)) (by first | assumption | exact nA ok (by omega) (by omega) (by omega)) ?_ | refine hget_n (by first | assumption | exact Ne.symm (by assumption) | exact nA ok (by omega) (by omega) (by omega)) ?_) (by rfl) ?_
  refine x_iload_n 0 dX12_readsCommand_13 rfl rfl ?_
  refine x_iastn dX12_readsCommand_14 (by with_reducible repeat first | assumption | exact mH_0 ok | exact mH_1 | exact hset_s | refine mH_o (by first | assumption | exact nA ok (by omega) (by omega) (by omega)) (by first | assumption | exact nA ok (by omega) (by omega) (by omega)) ?_ | refine hget_n (by first | assumption | exact Ne.symm (by assumption) | exact nA ok (by omega) (by omega) (by omega)) ?_) (by omega) (by first | decide | omega) (by first | assumption | exact aA (by assumption) (by omega)) ?_
  refine x_eqH (mH_c m30.1 m30.2) ?_
  first | refine x_aload_n 1 dX12_readsCommand_15 rfl rfl ?_ | refine x_aload_nN 1 dX12_readsCommand_15 rfl rfl ?_
  refine x_get fX12_45 rfl dX12_readsCommand_16 (by with_reducible repeat first | assumption | exact mH_0 ok | exact mH_1 | exact hset_s | refine mH_o (by first | assumption | exact nA ok (by omega) (by omega) (by omega)) (by first | assumption | exact nA ok (by omega) (by omega) (by omega)) ?_ | refine hget_n (by first | assumption | exact Ne.symm (by assumption) | exact nA ok (by omega) (by omega) (by omega)) ?_) (by rfl) ?_
  refine x_iconst (v := 2) dX12_readsCommand_19 rfl ?_
  first | refine x_aload_n 1 dX12_readsCommand_20 rfl rfl ?_ | refine x_aload_nN 1 dX12_readsCommand_20 rfl rfl ?_
  refine x_get fX12_260 rfl dX12_readsCommand_21 (by with_reducible repeat first | assumption | exact mH_0 ok | exact mH_1 | exact hset_s | refine mH_o (by first | assumption | exact nA ok (by omega) (by omega) (by omega)) (by first | assumption | exact nA ok (by omega) (by omega) (by omega)) ?_ | refine hget_n (by first | assumption | exact Ne.symm (by assumption) | exact nA ok (by omega) (by omega) (by omega)) ?_) (by rfl) ?_
  refine x_imul dX12_readsCommand_24 ?_
  rw [show (2 : Int32) = nI 2 from rfl, pk_mul]
  first | refine x_aload_n 1 dX12_readsCommand_25 rfl rfl ?_ | refine x_aload_nN 1 dX12_readsCommand_25 rfl rfl ?_
  refine x_iconst (v := 1) dX12_readsCommand_26 rfl ?_
  refine x_cV1 (As := [.int _]) (ct_num_ok ok (by with_reducible repeat first | assumption | exact mH_0 ok | exact mH_1 | exact hset_s | refine mH_o (by first | assumption | exact nA ok (by omega) (by omega) (by omega)) (by first | assumption | exact nA ok (by omega) (by omega) (by omega)) ?_ | refine hget_n (by first | assumption | exact Ne.symm (by assumption) | exact nA ok (by omega) (by omega) (by omega)) ?_) hT h60 (a := a + wl v) (by omega) hb hn D (Or.inr ⟨rfl, rfl⟩)) vX12_263 rfl (x_recv (by with_reducible repeat first | assumption | exact mH_0 ok | exact mH_1 | exact hset_s | refine mH_o (by first | assumption | exact nA ok (by omega) (by omega) (by omega)) (by first | assumption | exact nA ok (by omega) (by omega) (by omega)) ?_ | refine hget_n (by first | assumption | exact Ne.symm (by assumption) | exact nA ok (by omega) (by omega) (by omega)) ?_) rfl) rfl ⟨ble rfl, ble rfl⟩ (ble rfl) dX12_readsCommand_27 rfl ?_
  refine x_iastn dX12_readsCommand_30 (by with_reducible repeat first | assumption | exact mH_0 ok | exact mH_1 | exact hset_s | refine mH_o (by first | assumption | exact nA ok (by omega) (by omega) (by omega)) (by first | assumption | exact nA ok (by omega) (by omega) (by omega)) ?_ | refine hget_n (by first | assumption | exact Ne.symm (by assumption) | exact nA ok (by omega) (by omega) (by omega)) ?_) (by omega) (by first | decide | omega) (by first | assumption | exact aA (by assumption) (by omega)) ?_
  refine x_eqH (mH_c m31.1 m31.2) ?_
  refine x_iload_n 0 dX12_readsCommand_31 rfl rfl ?_
  refine x_bipush (v := 10) dX12_readsCommand_32 rfl ?_
  refine x_icmp_ge 71 dX12_readsCommand_34 (by decide) (fun z => by first | exact absurd z (show ¬ (10 : Int32) ≤ nI (5 + v) from nI_ge (b := 10) (a := 5 + v) (by omega) (by omega)) | exact absurd (show ¬ (10 : Int32) ≤ nI (5 + v) from nI_ge (b := 10) (a := 5 + v) (by omega) (by omega)) z) (fun _ => ?_)
  first | refine x_aload_n 1 dX12_readsCommand_37 rfl rfl ?_ | refine x_aload_nN 1 dX12_readsCommand_37 rfl rfl ?_
  refine x_get fX12_45 rfl dX12_readsCommand_38 (by with_reducible repeat first | assumption | exact mH_0 ok | exact mH_1 | exact hset_s | refine mH_o (by first | assumption | exact nA ok (by omega) (by omega) (by omega)) (by first | assumption | exact nA ok (by omega) (by omega) (by omega)) ?_ | refine hget_n (by first | assumption | exact Ne.symm (by assumption) | exact nA ok (by omega) (by omega) (by omega)) ?_) (by rfl) ?_
  refine x_iconst (v := 2) dX12_readsCommand_41 rfl ?_
  first | refine x_aload_n 1 dX12_readsCommand_42 rfl rfl ?_ | refine x_aload_nN 1 dX12_readsCommand_42 rfl rfl ?_
  refine x_get fX12_260 rfl dX12_readsCommand_43 (by with_reducible repeat first | assumption | exact mH_0 ok | exact mH_1 | exact hset_s | refine mH_o (by first | assumption | exact nA ok (by omega) (by omega) (by omega)) (by first | assumption | exact nA ok (by omega) (by omega) (by omega)) ?_ | refine hget_n (by first | assumption | exact Ne.symm (by assumption) | exact nA ok (by omega) (by omega) (by omega)) ?_) (by rfl) ?_
  refine x_imul dX12_readsCommand_46 ?_
  rw [show (2 : Int32) = nI 2 from rfl, pk_mul]
  refine x_iconst (v := 1) dX12_readsCommand_47 rfl ?_
  refine x_iadd dX12_readsCommand_48 ?_
  rw [nI_1]
  first | refine x_aload_n 1 dX12_readsCommand_49 rfl rfl ?_ | refine x_aload_nN 1 dX12_readsCommand_49 rfl rfl ?_
  refine x_iload_n 0 dX12_readsCommand_50 rfl rfl ?_
  refine x_bipush (v := 6) dX12_readsCommand_51 rfl ?_
  have J67 : ∀ z : Int32, z = (if mdV v = 2 then 1 else 0) → XX l G mX12_readsCommand (Rm 8 (0) (0)) (KQ G (Rm 8 (0) (0)) (fun w h' => w = none ∧ ∃ kd' nb', h' = mH G (hset (hset h (Ad G 30) (eI G 16 kd')) (Ad G 31) (eI G 32 nb')) (eMd G sv rem typ err lin why wha beh its (nI tx.length) (nI ((a + wl v + 1 + n) + 1)) (nI ((a + wl v + 1 + n) + 1)) (nI (ci + 1))) N ∧ (∀ q, q < ci → kd' q = kd q ∧ nb' (2 * q) = nb (2 * q) ∧ nb' (2 * q + 1) = nb (2 * q + 1)) ∧ True)) (0) (0) 67 [(1, .int (nI (5 + v))), (0, .ref (Ad G 20))] [.int z, .ref (Ad G 20), .int (nI (2 * ci + 1)), .ref (Ad G 31)] (mH G (hset (hset h (Ad G 30) (eI G 16 (upd kd ci (nI (5 + v))))) (Ad G 31) (eI G 32 (upd nb (2 * ci) (nvI tx (a + wl v + 1) n)))) (eMd G sv rem typ err lin why wha beh its (nI tx.length) (nI (a + wl v + 1 + n)) (-1) (nI ci)) N) := by
    intro z hz
    subst hz
    refine x_cV1 (As := [.int _]) (ct_num_d ok (by with_reducible repeat first | assumption | exact mH_0 ok | exact mH_1 | exact hset_s | refine mH_o (by first | assumption | exact nA ok (by omega) (by omega) (by omega)) (by first | assumption | exact nA ok (by omega) (by omega) (by omega)) ?_ | refine hget_n (by first | assumption | exact Ne.symm (by assumption) | exact nA ok (by omega) (by omega) (by omega)) ?_) hT h60 (a := (a + wl v + 1 + n)) ha2 hb2 hd2) vX12_263 rfl (x_recv (by with_reducible repeat first | assumption | exact mH_0 ok | exact mH_1 | exact hset_s | refine mH_o (by first | assumption | exact nA ok (by omega) (by omega) (by omega)) (by first | assumption | exact nA ok (by omega) (by omega) (by omega)) ?_ | refine hget_n (by first | assumption | exact Ne.symm (by assumption) | exact nA ok (by omega) (by omega) (by omega)) ?_) rfl) rfl ⟨ble rfl, ble rfl⟩ (ble rfl) dX12_readsCommand_67 rfl ?_
    refine x_iastn dX12_readsCommand_70 (by with_reducible repeat first | assumption | exact mH_0 ok | exact mH_1 | exact hset_s | refine mH_o (by first | assumption | exact nA ok (by omega) (by omega) (by omega)) (by first | assumption | exact nA ok (by omega) (by omega) (by omega)) ?_ | refine hget_n (by first | assumption | exact Ne.symm (by assumption) | exact nA ok (by omega) (by omega) (by omega)) ?_) (by omega) (by first | decide | omega) (by first | assumption | exact aA (by assumption) (by omega)) ?_
    first | (refine x_eqH (h' := mH G (hset (hset h (Ad G 30) (eI G 16 (upd kd ci (nI (5 + v))))) (Ad G 31) (eI G 32 (upd (upd nb (2 * ci) (nvI tx (a + wl v + 1) n)) (2 * ci + 1) 0))) (eMd G sv rem typ err lin why wha beh its (nI tx.length) (nI ((a + wl v + 1 + n) + 1)) (nI ((a + wl v + 1 + n) + 1)) (nI ci)) N) ((mH_c m31.1 m31.2).trans (by rw [hset_2])) ?_) | skip
    first | refine x_aload_n 1 dX12_readsCommand_71 rfl rfl ?_ | refine x_aload_nN 1 dX12_readsCommand_71 rfl rfl ?_
    refine x_dup dX12_readsCommand_72 rfl ?_
    refine x_get fX12_260 rfl dX12_readsCommand_73 (by with_reducible repeat first | assumption | exact mH_0 ok | exact mH_1 | exact hset_s | refine mH_o (by first | assumption | exact nA ok (by omega) (by omega) (by omega)) (by first | assumption | exact nA ok (by omega) (by omega) (by omega)) ?_ | refine hget_n (by first | assumption | exact Ne.symm (by assumption) | exact nA ok (by omega) (by omega) (by omega)) ?_) (by rfl) ?_
    refine x_iconst (v := 1) dX12_readsCommand_76 rfl ?_
    refine x_iadd dX12_readsCommand_77 ?_
    rw [nI_1]
    refine x_mput ok fX12_260 rfl rfl rfl rfl dX12_readsCommand_78 (by exact ble rfl) ?_
    refine x_vret rfl dX12_readsCommand_81 ?_
    refine ⟨rfl, _, _, rfl, ?_, ?_⟩
    · intro q hq; refine ⟨?_, ?_, ?_⟩ <;> simp (disch := omega) only [upd_ne]
    · exact trivial
  refine x_icmp_eq 62 dX12_readsCommand_53 (by decide) (fun c53 => ?_) (fun c53 => ?_)
  · refine x_iconst (v := 1) dX12_readsCommand_62 rfl ?_
    refine x_goto 67 dX12_readsCommand_63 (by decide) ?_
    refine x_locs (L' := [(1, _), (0, _)]) [0, 1] rfl ?_
    refine J67 _ ?_
    rcases (show v = 0 ∨ v = 1 ∨ v = 2 ∨ v = 3 ∨ v = 4 by omega) with rfl | rfl | rfl | rfl | rfl <;> first | exact absurd rfl c53 | exact absurd c53 (by decide) | exact absurd rfl c59 | exact absurd c59 (by decide) | rfl
  · refine x_iload_n 0 dX12_readsCommand_56 rfl rfl ?_
    refine x_bipush (v := 8) dX12_readsCommand_57 rfl ?_
    refine x_icmp_ne 66 dX12_readsCommand_59 (by decide) (fun c59 => ?_) (fun c59 => ?_)
    · refine x_iconst (v := 0) dX12_readsCommand_66 rfl ?_
      refine x_locs (L' := [(1, _), (0, _)]) [0, 1] rfl ?_
      refine J67 _ ?_
      rcases (show v = 0 ∨ v = 1 ∨ v = 2 ∨ v = 3 ∨ v = 4 by omega) with rfl | rfl | rfl | rfl | rfl <;> first | exact absurd rfl c53 | exact absurd c53 (by decide) | exact absurd rfl c59 | exact absurd c59 (by decide) | rfl
    · refine x_iconst (v := 1) dX12_readsCommand_62 rfl ?_
      refine x_goto 67 dX12_readsCommand_63 (by decide) ?_
      refine x_locs (L' := [(1, _), (0, _)]) [0, 1] rfl ?_
      refine J67 _ ?_
      rcases (show v = 0 ∨ v = 1 ∨ v = 2 ∨ v = 3 ∨ v = 4 by omega) with rfl | rfl | rfl | rfl | rfl <;> first | exact absurd rfl c53 | exact absurd c53 (by decide) | exact absurd rfl c59 | exact absurd c59 (by decide) | rfl
set_option maxRecDepth 100000 in
set_option maxHeartbeats 1000000 in
theorem ct_rc_C {l : Launch} {G : Gl} {h : Hp} {sv rem typ err lin why wha beh its : Int32} {N : Nat → Int32} (ok : Ok G) {tv : Nat → Int32} (htext : h (Ad G 27) = some (eI G 60 tv)) {tx : List Int32} {a : Nat} (hT : ∀ i, i < tx.length → tv i = tx.getD i 0) (h60 : tx.length ≤ 60) (ha60 : a ≤ 60) {kd nb : Nat → Int32} (h30 : h (Ad G 30) = some (eI G 16 kd)) (h31 : h (Ad G 31) = some (eI G 32 nb)) {ci : Nat} (hci : ci < 16) {ml : Nat → Nat} (hml : MlP tx a ml) {v : Nat} (hv : v < 6) (hfull : ml v = wl v) (hnf : ∀ u, u < v → ml u ≠ wl u) (hb : a + wl v < tx.length ∧ tx.getD (a + wl v) 0 = 32) (hd1 : ¬ dgt tx (a + wl v + 1)) : Ct l G mX12_readsCommand 8 (0) (0) [.ref (Ad G 20)] (mH G h (eMd G sv rem typ err lin why wha beh its (nI tx.length) (nI (a)) (-1) (nI ci)) N) (fun w h' => w = none ∧ ∃ kd' nb', h' = mH G (hset (hset h (Ad G 30) (eI G 16 kd')) (Ad G 31) (eI G 32 nb')) (eMd G sv rem typ err lin why wha beh its (nI tx.length) (nI (a + wl v + 1)) (nI (a + wl v + 1)) (nI (ci + 1))) N ∧ (∀ q, q < ci → kd' q = kd q ∧ nb' (2 * q) = nb (2 * q) ∧ nb' (2 * q + 1) = nb (2 * q + 1)) ∧ True) := by
  have m30 : Ad G 30 ≠ Ad G 20 ∧ Ad G 30 ≠ Ad G 21 := ⟨nA ok (by omega) (by omega) (by omega), nA ok (by omega) (by omega) (by omega)⟩
  have m31 : Ad G 31 ≠ Ad G 20 ∧ Ad G 31 ≠ Ad G 21 := ⟨nA ok (by omega) (by omega) (by omega), nA ok (by omega) (by omega) (by omega)⟩
  have hmv := (hml v hv).2.1 (wl v - 1) (by have := (wl_t v hv).2.2.1; omega)
  have hw0 := (wl_t v hv).2.2.1
  have hal : a + (wl v - 1) < tx.length := hmv.1
  have haw : a + wl v ≤ 60 := by omega
  refine Ct.of (L := [(0, _)]) (by decide) (ble rfl) rfl ?_
  first | refine x_aload_n 0 dX12_readsCommand_0 rfl rfl ?_ | refine x_aload_nN 0 dX12_readsCommand_0 rfl rfl ?_
  refine x_cV1 (As := []) (ct_word_y ok htext hT h60 ha60 hml hv hfull hnf) vX12_257 rfl (x_recv (by with_reducible repeat first | assumption | exact mH_0 ok | exact mH_1 | exact hset_s | refine mH_o (by first | assumption | exact nA ok (by omega) (by omega) (by omega)) (by first | assumption | exact nA ok (by omega) (by omega) (by omega)) ?_ | refine hget_n (by first | assumption | exact Ne.symm (by assumption) | exact nA ok (by omega) (by omega) (by omega)) ?_) rfl) rfl ⟨ble rfl, ble rfl⟩ (ble rfl) dX12_readsCommand_1 rfl ?_
  refine x_istore_n (L' := [(1, _), (0, _)]) dX12_readsCommand_4 rfl (ble rfl) rfl ?_
  first | refine x_aload_n 1 dX12_readsCommand_5 rfl rfl ?_ | refine x_aload_nN 1 dX12_readsCommand_5 rfl rfl ?_
  refine x_get fX12_42 rfl dX12_readsCommand_6 (by with_reducible repeat first | assumption | exact mH_0 ok | exact mH_1 | exact hset_s | refine mH_o (by first | assumption | exact nA ok (by omega) (by omega) (by omega)) (by first | assumption | exact nA ok (by omega) (by omega) (by omega)) ?_ | refine hget_n (by first | assumption | exact Ne.symm (by assumption) | exact nA ok (by omega) (by omega) (by omega)) ?_) (by rfl) ?_
  first | refine x_aload_n 1 dX12_readsCommand_9 rfl rfl ?_ | refine x_aload_nN 1 dX12_readsCommand_9 rfl rfl ?_
  refine x_get fX12_260 rfl dX12_readsCommand_10 (by with_reducible repeat first | assumption | exact mH_0 ok | exact mH_1 | exact hset_s | refine mH_o (by first | assumption | exact nA ok (by omega) (by omega) (by omega)) (by first | assumption | exact nA ok (by omega) (by omega) (by omega)) ?_ | refine hget_n (by first | assumption | exact Ne.symm (by assumption) | exact nA ok (by omega) (by omega) (by omega)) ?_) (by rfl) ?_
  refine x_iload_n 0 dX12_readsCommand_13 rfl rfl ?_
  refine x_iastn dX12_readsCommand_14 (by with_reducible repeat first | assumption | exact mH_0 ok | exact mH_1 | exact hset_s | refine mH_o (by first | assumption | exact nA ok (by omega) (by omega) (by omega)) (by first | assumption | exact nA ok (by omega) (by omega) (by omega)) ?_ | refine hget_n (by first | assumption | exact Ne.symm (by assumption) | exact nA ok (by omega) (by omega) (by omega)) ?_) (by omega) (by first | decide | omega) (by first | assumption | exact aA (by assumption) (by omega)) ?_
  refine x_eqH (mH_c m30.1 m30.2) ?_
  first | refine x_aload_n 1 dX12_readsCommand_15 rfl rfl ?_ | refine x_aload_nN 1 dX12_readsCommand_15 rfl rfl ?_
  refine x_get fX12_45 rfl dX12_readsCommand_16 (by with_reducible repeat first | assumption | exact mH_0 ok | exact mH_1 | exact hset_s | refine mH_o (by first | assumption | exact nA ok (by omega) (by omega) (by omega)) (by first | assumption | exact nA ok (by omega) (by omega) (by omega)) ?_ | refine hget_n (by first | assumption | exact Ne.symm (by assumption) | exact nA ok (by omega) (by omega) (by omega)) ?_) (by rfl) ?_
  refine x_iconst (v := 2) dX12_readsCommand_19 rfl ?_
  first | refine x_aload_n 1 dX12_readsCommand_20 rfl rfl ?_ | refine x_aload_nN 1 dX12_readsCommand_20 rfl rfl ?_
  refine x_get fX12_260 rfl dX12_readsCommand_21 (by with_reducible repeat first | assumption | exact mH_0 ok | exact mH_1 | exact hset_s | refine mH_o (by first | assumption | exact nA ok (by omega) (by omega) (by omega)) (by first | assumption | exact nA ok (by omega) (by omega) (by omega)) ?_ | refine hget_n (by first | assumption | exact Ne.symm (by assumption) | exact nA ok (by omega) (by omega) (by omega)) ?_) (by rfl) ?_
  refine x_imul dX12_readsCommand_24 ?_
  rw [show (2 : Int32) = nI 2 from rfl, pk_mul]
  first | refine x_aload_n 1 dX12_readsCommand_25 rfl rfl ?_ | refine x_aload_nN 1 dX12_readsCommand_25 rfl rfl ?_
  refine x_iconst (v := 1) dX12_readsCommand_26 rfl ?_
  refine x_cV1 (As := [.int _]) (ct_num_d ok (by with_reducible repeat first | assumption | exact mH_0 ok | exact mH_1 | exact hset_s | refine mH_o (by first | assumption | exact nA ok (by omega) (by omega) (by omega)) (by first | assumption | exact nA ok (by omega) (by omega) (by omega)) ?_ | refine hget_n (by first | assumption | exact Ne.symm (by assumption) | exact nA ok (by omega) (by omega) (by omega)) ?_) hT h60 (a := a + wl v) (by omega) hb hd1) vX12_263 rfl (x_recv (by with_reducible repeat first | assumption | exact mH_0 ok | exact mH_1 | exact hset_s | refine mH_o (by first | assumption | exact nA ok (by omega) (by omega) (by omega)) (by first | assumption | exact nA ok (by omega) (by omega) (by omega)) ?_ | refine hget_n (by first | assumption | exact Ne.symm (by assumption) | exact nA ok (by omega) (by omega) (by omega)) ?_) rfl) rfl ⟨ble rfl, ble rfl⟩ (ble rfl) dX12_readsCommand_27 rfl ?_
  refine x_iastn dX12_readsCommand_30 (by with_reducible repeat first | assumption | exact mH_0 ok | exact mH_1 | exact hset_s | refine mH_o (by first | assumption | exact nA ok (by omega) (by omega) (by omega)) (by first | assumption | exact nA ok (by omega) (by omega) (by omega)) ?_ | refine hget_n (by first | assumption | exact Ne.symm (by assumption) | exact nA ok (by omega) (by omega) (by omega)) ?_) (by omega) (by first | decide | omega) (by first | assumption | exact aA (by assumption) (by omega)) ?_
  refine x_eqH (mH_c m31.1 m31.2) ?_
  refine x_iload_n 0 dX12_readsCommand_31 rfl rfl ?_
  refine x_bipush (v := 10) dX12_readsCommand_32 rfl ?_
  refine x_icmp_ge 71 dX12_readsCommand_34 (by decide) (fun c34 => ?_) (fun c34 => ?_)
  · first | (refine x_eqH (h' := mH G (hset (hset h (Ad G 30) (eI G 16 (upd kd ci (nI (5 + v))))) (Ad G 31) (eI G 32 (upd (upd nb (2 * ci) 0) (2 * ci + 1) 0))) (eMd G sv rem typ err lin why wha beh its (nI tx.length) (nI (a + wl v + 1)) (nI (a + wl v + 1)) (nI ci)) N) ((mH_c m31.1 m31.2).trans (by rw [hset_2])) ?_) | skip
    first | refine x_aload_n 1 dX12_readsCommand_71 rfl rfl ?_ | refine x_aload_nN 1 dX12_readsCommand_71 rfl rfl ?_
    refine x_dup dX12_readsCommand_72 rfl ?_
    refine x_get fX12_260 rfl dX12_readsCommand_73 (by with_reducible repeat first | assumption | exact mH_0 ok | exact mH_1 | exact hset_s | refine mH_o (by first | assumption | exact nA ok (by omega) (by omega) (by omega)) (by first | assumption | exact nA ok (by omega) (by omega) (by omega)) ?_ | refine hget_n (by first | assumption | exact Ne.symm (by assumption) | exact nA ok (by omega) (by omega) (by omega)) ?_) (by rfl) ?_
    refine x_iconst (v := 1) dX12_readsCommand_76 rfl ?_
    refine x_iadd dX12_readsCommand_77 ?_
    rw [nI_1]
    refine x_mput ok fX12_260 rfl rfl rfl rfl dX12_readsCommand_78 (by exact ble rfl) ?_
    refine x_vret rfl dX12_readsCommand_81 ?_
    refine ⟨rfl, _, _, rfl, ?_, ?_⟩
    · intro q hq; refine ⟨?_, ?_, ?_⟩ <;> simp (disch := omega) only [upd_ne]
    · exact trivial
  · first | refine x_aload_n 1 dX12_readsCommand_37 rfl rfl ?_ | refine x_aload_nN 1 dX12_readsCommand_37 rfl rfl ?_
    refine x_get fX12_45 rfl dX12_readsCommand_38 (by with_reducible repeat first | assumption | exact mH_0 ok | exact mH_1 | exact hset_s | refine mH_o (by first | assumption | exact nA ok (by omega) (by omega) (by omega)) (by first | assumption | exact nA ok (by omega) (by omega) (by omega)) ?_ | refine hget_n (by first | assumption | exact Ne.symm (by assumption) | exact nA ok (by omega) (by omega) (by omega)) ?_) (by rfl) ?_
    refine x_iconst (v := 2) dX12_readsCommand_41 rfl ?_
    first | refine x_aload_n 1 dX12_readsCommand_42 rfl rfl ?_ | refine x_aload_nN 1 dX12_readsCommand_42 rfl rfl ?_
    refine x_get fX12_260 rfl dX12_readsCommand_43 (by with_reducible repeat first | assumption | exact mH_0 ok | exact mH_1 | exact hset_s | refine mH_o (by first | assumption | exact nA ok (by omega) (by omega) (by omega)) (by first | assumption | exact nA ok (by omega) (by omega) (by omega)) ?_ | refine hget_n (by first | assumption | exact Ne.symm (by assumption) | exact nA ok (by omega) (by omega) (by omega)) ?_) (by rfl) ?_
    refine x_imul dX12_readsCommand_46 ?_
    rw [show (2 : Int32) = nI 2 from rfl, pk_mul]
    refine x_iconst (v := 1) dX12_readsCommand_47 rfl ?_
    refine x_iadd dX12_readsCommand_48 ?_
    rw [nI_1]
    first | refine x_aload_n 1 dX12_readsCommand_49 rfl rfl ?_ | refine x_aload_nN 1 dX12_readsCommand_49 rfl rfl ?_
    refine x_iload_n 0 dX12_readsCommand_50 rfl rfl ?_
    refine x_bipush (v := 6) dX12_readsCommand_51 rfl ?_
    refine x_icmp_eq 62 dX12_readsCommand_53 (by decide) (fun c53 => ?_) (fun c53 => ?_)
    · refine x_iconst (v := 1) dX12_readsCommand_62 rfl ?_
      refine x_goto 67 dX12_readsCommand_63 (by decide) ?_
      refine x_cV1 (As := [.int _]) (ct_num_w ok (nIm (p := a + wl v + 1) (by omega))) vX12_263 rfl (x_recv (by with_reducible repeat first | assumption | exact mH_0 ok | exact mH_1 | exact hset_s | refine mH_o (by first | assumption | exact nA ok (by omega) (by omega) (by omega)) (by first | assumption | exact nA ok (by omega) (by omega) (by omega)) ?_ | refine hget_n (by first | assumption | exact Ne.symm (by assumption) | exact nA ok (by omega) (by omega) (by omega)) ?_) rfl) rfl ⟨ble rfl, ble rfl⟩ (ble rfl) dX12_readsCommand_67 rfl ?_
      refine x_iastn dX12_readsCommand_70 (by with_reducible repeat first | assumption | exact mH_0 ok | exact mH_1 | exact hset_s | refine mH_o (by first | assumption | exact nA ok (by omega) (by omega) (by omega)) (by first | assumption | exact nA ok (by omega) (by omega) (by omega)) ?_ | refine hget_n (by first | assumption | exact Ne.symm (by assumption) | exact nA ok (by omega) (by omega) (by omega)) ?_) (by omega) (by first | decide | omega) (by first | assumption | exact aA (by assumption) (by omega)) ?_
      first | (refine x_eqH (h' := mH G (hset (hset h (Ad G 30) (eI G 16 (upd kd ci (nI (5 + v))))) (Ad G 31) (eI G 32 (upd (upd nb (2 * ci) 0) (2 * ci + 1) 0))) (eMd G sv rem typ err lin why wha beh its (nI tx.length) (nI (a + wl v + 1)) (nI (a + wl v + 1)) (nI ci)) N) ((mH_c m31.1 m31.2).trans (by rw [hset_2])) ?_) | skip
      first | refine x_aload_n 1 dX12_readsCommand_71 rfl rfl ?_ | refine x_aload_nN 1 dX12_readsCommand_71 rfl rfl ?_
      refine x_dup dX12_readsCommand_72 rfl ?_
      refine x_get fX12_260 rfl dX12_readsCommand_73 (by with_reducible repeat first | assumption | exact mH_0 ok | exact mH_1 | exact hset_s | refine mH_o (by first | assumption | exact nA ok (by omega) (by omega) (by omega)) (by first | assumption | exact nA ok (by omega) (by omega) (by omega)) ?_ | refine hget_n (by first | assumption | exact Ne.symm (by assumption) | exact nA ok (by omega) (by omega) (by omega)) ?_) (by rfl) ?_
      refine x_iconst (v := 1) dX12_readsCommand_76 rfl ?_
      refine x_iadd dX12_readsCommand_77 ?_
      rw [nI_1]
      refine x_mput ok fX12_260 rfl rfl rfl rfl dX12_readsCommand_78 (by exact ble rfl) ?_
      refine x_vret rfl dX12_readsCommand_81 ?_
      refine ⟨rfl, _, _, rfl, ?_, ?_⟩
      · intro q hq; refine ⟨?_, ?_, ?_⟩ <;> simp (disch := omega) only [upd_ne]
      · exact trivial
    · refine x_iload_n 0 dX12_readsCommand_56 rfl rfl ?_
      refine x_bipush (v := 8) dX12_readsCommand_57 rfl ?_
      refine x_icmp_ne 66 dX12_readsCommand_59 (by decide) (fun c59 => ?_) (fun c59 => ?_)
      · refine x_iconst (v := 0) dX12_readsCommand_66 rfl ?_
        refine x_cV1 (As := [.int _]) (ct_num_w ok (nIm (p := a + wl v + 1) (by omega))) vX12_263 rfl (x_recv (by with_reducible repeat first | assumption | exact mH_0 ok | exact mH_1 | exact hset_s | refine mH_o (by first | assumption | exact nA ok (by omega) (by omega) (by omega)) (by first | assumption | exact nA ok (by omega) (by omega) (by omega)) ?_ | refine hget_n (by first | assumption | exact Ne.symm (by assumption) | exact nA ok (by omega) (by omega) (by omega)) ?_) rfl) rfl ⟨ble rfl, ble rfl⟩ (ble rfl) dX12_readsCommand_67 rfl ?_
        refine x_iastn dX12_readsCommand_70 (by with_reducible repeat first | assumption | exact mH_0 ok | exact mH_1 | exact hset_s | refine mH_o (by first | assumption | exact nA ok (by omega) (by omega) (by omega)) (by first | assumption | exact nA ok (by omega) (by omega) (by omega)) ?_ | refine hget_n (by first | assumption | exact Ne.symm (by assumption) | exact nA ok (by omega) (by omega) (by omega)) ?_) (by omega) (by first | decide | omega) (by first | assumption | exact aA (by assumption) (by omega)) ?_
        first | (refine x_eqH (h' := mH G (hset (hset h (Ad G 30) (eI G 16 (upd kd ci (nI (5 + v))))) (Ad G 31) (eI G 32 (upd (upd nb (2 * ci) 0) (2 * ci + 1) 0))) (eMd G sv rem typ err lin why wha beh its (nI tx.length) (nI (a + wl v + 1)) (nI (a + wl v + 1)) (nI ci)) N) ((mH_c m31.1 m31.2).trans (by rw [hset_2])) ?_) | skip
        first | refine x_aload_n 1 dX12_readsCommand_71 rfl rfl ?_ | refine x_aload_nN 1 dX12_readsCommand_71 rfl rfl ?_
        refine x_dup dX12_readsCommand_72 rfl ?_
        refine x_get fX12_260 rfl dX12_readsCommand_73 (by with_reducible repeat first | assumption | exact mH_0 ok | exact mH_1 | exact hset_s | refine mH_o (by first | assumption | exact nA ok (by omega) (by omega) (by omega)) (by first | assumption | exact nA ok (by omega) (by omega) (by omega)) ?_ | refine hget_n (by first | assumption | exact Ne.symm (by assumption) | exact nA ok (by omega) (by omega) (by omega)) ?_) (by rfl) ?_
        refine x_iconst (v := 1) dX12_readsCommand_76 rfl ?_
        refine x_iadd dX12_readsCommand_77 ?_
        rw [nI_1]
        refine x_mput ok fX12_260 rfl rfl rfl rfl dX12_readsCommand_78 (by exact ble rfl) ?_
        refine x_vret rfl dX12_readsCommand_81 ?_
        refine ⟨rfl, _, _, rfl, ?_, ?_⟩
        · intro q hq; refine ⟨?_, ?_, ?_⟩ <;> simp (disch := omega) only [upd_ne]
        · exact trivial
      · refine x_iconst (v := 1) dX12_readsCommand_62 rfl ?_
        refine x_goto 67 dX12_readsCommand_63 (by decide) ?_
        refine x_cV1 (As := [.int _]) (ct_num_w ok (nIm (p := a + wl v + 1) (by omega))) vX12_263 rfl (x_recv (by with_reducible repeat first | assumption | exact mH_0 ok | exact mH_1 | exact hset_s | refine mH_o (by first | assumption | exact nA ok (by omega) (by omega) (by omega)) (by first | assumption | exact nA ok (by omega) (by omega) (by omega)) ?_ | refine hget_n (by first | assumption | exact Ne.symm (by assumption) | exact nA ok (by omega) (by omega) (by omega)) ?_) rfl) rfl ⟨ble rfl, ble rfl⟩ (ble rfl) dX12_readsCommand_67 rfl ?_
        refine x_iastn dX12_readsCommand_70 (by with_reducible repeat first | assumption | exact mH_0 ok | exact mH_1 | exact hset_s | refine mH_o (by first | assumption | exact nA ok (by omega) (by omega) (by omega)) (by first | assumption | exact nA ok (by omega) (by omega) (by omega)) ?_ | refine hget_n (by first | assumption | exact Ne.symm (by assumption) | exact nA ok (by omega) (by omega) (by omega)) ?_) (by omega) (by first | decide | omega) (by first | assumption | exact aA (by assumption) (by omega)) ?_
        first | (refine x_eqH (h' := mH G (hset (hset h (Ad G 30) (eI G 16 (upd kd ci (nI (5 + v))))) (Ad G 31) (eI G 32 (upd (upd nb (2 * ci) 0) (2 * ci + 1) 0))) (eMd G sv rem typ err lin why wha beh its (nI tx.length) (nI (a + wl v + 1)) (nI (a + wl v + 1)) (nI ci)) N) ((mH_c m31.1 m31.2).trans (by rw [hset_2])) ?_) | skip
        first | refine x_aload_n 1 dX12_readsCommand_71 rfl rfl ?_ | refine x_aload_nN 1 dX12_readsCommand_71 rfl rfl ?_
        refine x_dup dX12_readsCommand_72 rfl ?_
        refine x_get fX12_260 rfl dX12_readsCommand_73 (by with_reducible repeat first | assumption | exact mH_0 ok | exact mH_1 | exact hset_s | refine mH_o (by first | assumption | exact nA ok (by omega) (by omega) (by omega)) (by first | assumption | exact nA ok (by omega) (by omega) (by omega)) ?_ | refine hget_n (by first | assumption | exact Ne.symm (by assumption) | exact nA ok (by omega) (by omega) (by omega)) ?_) (by rfl) ?_
        refine x_iconst (v := 1) dX12_readsCommand_76 rfl ?_
        refine x_iadd dX12_readsCommand_77 ?_
        rw [nI_1]
        refine x_mput ok fX12_260 rfl rfl rfl rfl dX12_readsCommand_78 (by exact ble rfl) ?_
        refine x_vret rfl dX12_readsCommand_81 ?_
        refine ⟨rfl, _, _, rfl, ?_, ?_⟩
        · intro q hq; refine ⟨?_, ?_, ?_⟩ <;> simp (disch := omega) only [upd_ne]
        · exact trivial
set_option maxRecDepth 100000 in
set_option maxHeartbeats 1000000 in
theorem ct_rc_B {l : Launch} {G : Gl} {h : Hp} {sv rem typ err lin why wha beh its : Int32} {N : Nat → Int32} (ok : Ok G) {tv : Nat → Int32} (htext : h (Ad G 27) = some (eI G 60 tv)) {tx : List Int32} {a : Nat} (hT : ∀ i, i < tx.length → tv i = tx.getD i 0) (h60 : tx.length ≤ 60) (ha60 : a ≤ 60) {kd nb : Nat → Int32} (h30 : h (Ad G 30) = some (eI G 16 kd)) (h31 : h (Ad G 31) = some (eI G 32 nb)) {ci : Nat} (hci : ci < 16) {ml : Nat → Nat} (hml : MlP tx a ml) {v : Nat} (hv : v < 6) (hfull : ml v = wl v) (hnf : ∀ u, u < v → ml u ≠ wl u) (hb : ¬ (a + wl v < tx.length ∧ tx.getD (a + wl v) 0 = 32)) : Ct l G mX12_readsCommand 8 (0) (0) [.ref (Ad G 20)] (mH G h (eMd G sv rem typ err lin why wha beh its (nI tx.length) (nI (a)) (-1) (nI ci)) N) (fun w h' => w = none ∧ ∃ kd' nb', h' = mH G (hset (hset h (Ad G 30) (eI G 16 kd')) (Ad G 31) (eI G 32 nb')) (eMd G sv rem typ err lin why wha beh its (nI tx.length) (nI (a + wl v)) (nI (a + wl v)) (nI (ci + 1))) N ∧ (∀ q, q < ci → kd' q = kd q ∧ nb' (2 * q) = nb (2 * q) ∧ nb' (2 * q + 1) = nb (2 * q + 1)) ∧ True) := by
  have m30 : Ad G 30 ≠ Ad G 20 ∧ Ad G 30 ≠ Ad G 21 := ⟨nA ok (by omega) (by omega) (by omega), nA ok (by omega) (by omega) (by omega)⟩
  have m31 : Ad G 31 ≠ Ad G 20 ∧ Ad G 31 ≠ Ad G 21 := ⟨nA ok (by omega) (by omega) (by omega), nA ok (by omega) (by omega) (by omega)⟩
  have hmv := (hml v hv).2.1 (wl v - 1) (by have := (wl_t v hv).2.2.1; omega)
  have hw0 := (wl_t v hv).2.2.1
  have hal : a + (wl v - 1) < tx.length := hmv.1
  have haw : a + wl v ≤ 60 := by omega
  refine Ct.of (L := [(0, _)]) (by decide) (ble rfl) rfl ?_
  first | refine x_aload_n 0 dX12_readsCommand_0 rfl rfl ?_ | refine x_aload_nN 0 dX12_readsCommand_0 rfl rfl ?_
  refine x_cV1 (As := []) (ct_word_y ok htext hT h60 ha60 hml hv hfull hnf) vX12_257 rfl (x_recv (by with_reducible repeat first | assumption | exact mH_0 ok | exact mH_1 | exact hset_s | refine mH_o (by first | assumption | exact nA ok (by omega) (by omega) (by omega)) (by first | assumption | exact nA ok (by omega) (by omega) (by omega)) ?_ | refine hget_n (by first | assumption | exact Ne.symm (by assumption) | exact nA ok (by omega) (by omega) (by omega)) ?_) rfl) rfl ⟨ble rfl, ble rfl⟩ (ble rfl) dX12_readsCommand_1 rfl ?_
  refine x_istore_n (L' := [(1, _), (0, _)]) dX12_readsCommand_4 rfl (ble rfl) rfl ?_
  first | refine x_aload_n 1 dX12_readsCommand_5 rfl rfl ?_ | refine x_aload_nN 1 dX12_readsCommand_5 rfl rfl ?_
  refine x_get fX12_42 rfl dX12_readsCommand_6 (by with_reducible repeat first | assumption | exact mH_0 ok | exact mH_1 | exact hset_s | refine mH_o (by first | assumption | exact nA ok (by omega) (by omega) (by omega)) (by first | assumption | exact nA ok (by omega) (by omega) (by omega)) ?_ | refine hget_n (by first | assumption | exact Ne.symm (by assumption) | exact nA ok (by omega) (by omega) (by omega)) ?_) (by rfl) ?_
  first | refine x_aload_n 1 dX12_readsCommand_9 rfl rfl ?_ | refine x_aload_nN 1 dX12_readsCommand_9 rfl rfl ?_
  refine x_get fX12_260 rfl dX12_readsCommand_10 (by with_reducible repeat first | assumption | exact mH_0 ok | exact mH_1 | exact hset_s | refine mH_o (by first | assumption | exact nA ok (by omega) (by omega) (by omega)) (by first | assumption | exact nA ok (by omega) (by omega) (by omega)) ?_ | refine hget_n (by first | assumption | exact Ne.symm (by assumption) | exact nA ok (by omega) (by omega) (by omega)) ?_) (by rfl) ?_
  refine x_iload_n 0 dX12_readsCommand_13 rfl rfl ?_
  refine x_iastn dX12_readsCommand_14 (by with_reducible repeat first | assumption | exact mH_0 ok | exact mH_1 | exact hset_s | refine mH_o (by first | assumption | exact nA ok (by omega) (by omega) (by omega)) (by first | assumption | exact nA ok (by omega) (by omega) (by omega)) ?_ | refine hget_n (by first | assumption | exact Ne.symm (by assumption) | exact nA ok (by omega) (by omega) (by omega)) ?_) (by omega) (by first | decide | omega) (by first | assumption | exact aA (by assumption) (by omega)) ?_
  refine x_eqH (mH_c m30.1 m30.2) ?_
  first | refine x_aload_n 1 dX12_readsCommand_15 rfl rfl ?_ | refine x_aload_nN 1 dX12_readsCommand_15 rfl rfl ?_
  refine x_get fX12_45 rfl dX12_readsCommand_16 (by with_reducible repeat first | assumption | exact mH_0 ok | exact mH_1 | exact hset_s | refine mH_o (by first | assumption | exact nA ok (by omega) (by omega) (by omega)) (by first | assumption | exact nA ok (by omega) (by omega) (by omega)) ?_ | refine hget_n (by first | assumption | exact Ne.symm (by assumption) | exact nA ok (by omega) (by omega) (by omega)) ?_) (by rfl) ?_
  refine x_iconst (v := 2) dX12_readsCommand_19 rfl ?_
  first | refine x_aload_n 1 dX12_readsCommand_20 rfl rfl ?_ | refine x_aload_nN 1 dX12_readsCommand_20 rfl rfl ?_
  refine x_get fX12_260 rfl dX12_readsCommand_21 (by with_reducible repeat first | assumption | exact mH_0 ok | exact mH_1 | exact hset_s | refine mH_o (by first | assumption | exact nA ok (by omega) (by omega) (by omega)) (by first | assumption | exact nA ok (by omega) (by omega) (by omega)) ?_ | refine hget_n (by first | assumption | exact Ne.symm (by assumption) | exact nA ok (by omega) (by omega) (by omega)) ?_) (by rfl) ?_
  refine x_imul dX12_readsCommand_24 ?_
  rw [show (2 : Int32) = nI 2 from rfl, pk_mul]
  first | refine x_aload_n 1 dX12_readsCommand_25 rfl rfl ?_ | refine x_aload_nN 1 dX12_readsCommand_25 rfl rfl ?_
  refine x_iconst (v := 1) dX12_readsCommand_26 rfl ?_
  refine x_cV1 (As := [.int _]) (ct_num_b ok (by with_reducible repeat first | assumption | exact mH_0 ok | exact mH_1 | exact hset_s | refine mH_o (by first | assumption | exact nA ok (by omega) (by omega) (by omega)) (by first | assumption | exact nA ok (by omega) (by omega) (by omega)) ?_ | refine hget_n (by first | assumption | exact Ne.symm (by assumption) | exact nA ok (by omega) (by omega) (by omega)) ?_) hT h60 (a := a + wl v) (by omega) hb) vX12_263 rfl (x_recv (by with_reducible repeat first | assumption | exact mH_0 ok | exact mH_1 | exact hset_s | refine mH_o (by first | assumption | exact nA ok (by omega) (by omega) (by omega)) (by first | assumption | exact nA ok (by omega) (by omega) (by omega)) ?_ | refine hget_n (by first | assumption | exact Ne.symm (by assumption) | exact nA ok (by omega) (by omega) (by omega)) ?_) rfl) rfl ⟨ble rfl, ble rfl⟩ (ble rfl) dX12_readsCommand_27 rfl ?_
  refine x_iastn dX12_readsCommand_30 (by with_reducible repeat first | assumption | exact mH_0 ok | exact mH_1 | exact hset_s | refine mH_o (by first | assumption | exact nA ok (by omega) (by omega) (by omega)) (by first | assumption | exact nA ok (by omega) (by omega) (by omega)) ?_ | refine hget_n (by first | assumption | exact Ne.symm (by assumption) | exact nA ok (by omega) (by omega) (by omega)) ?_) (by omega) (by first | decide | omega) (by first | assumption | exact aA (by assumption) (by omega)) ?_
  refine x_eqH (mH_c m31.1 m31.2) ?_
  refine x_iload_n 0 dX12_readsCommand_31 rfl rfl ?_
  refine x_bipush (v := 10) dX12_readsCommand_32 rfl ?_
  refine x_icmp_ge 71 dX12_readsCommand_34 (by decide) (fun c34 => ?_) (fun c34 => ?_)
  · first | (refine x_eqH (h' := mH G (hset (hset h (Ad G 30) (eI G 16 (upd kd ci (nI (5 + v))))) (Ad G 31) (eI G 32 (upd (upd nb (2 * ci) 0) (2 * ci + 1) 0))) (eMd G sv rem typ err lin why wha beh its (nI tx.length) (nI (a + wl v)) (nI (a + wl v)) (nI ci)) N) ((mH_c m31.1 m31.2).trans (by rw [hset_2])) ?_) | skip
    first | refine x_aload_n 1 dX12_readsCommand_71 rfl rfl ?_ | refine x_aload_nN 1 dX12_readsCommand_71 rfl rfl ?_
    refine x_dup dX12_readsCommand_72 rfl ?_
    refine x_get fX12_260 rfl dX12_readsCommand_73 (by with_reducible repeat first | assumption | exact mH_0 ok | exact mH_1 | exact hset_s | refine mH_o (by first | assumption | exact nA ok (by omega) (by omega) (by omega)) (by first | assumption | exact nA ok (by omega) (by omega) (by omega)) ?_ | refine hget_n (by first | assumption | exact Ne.symm (by assumption) | exact nA ok (by omega) (by omega) (by omega)) ?_) (by rfl) ?_
    refine x_iconst (v := 1) dX12_readsCommand_76 rfl ?_
    refine x_iadd dX12_readsCommand_77 ?_
    rw [nI_1]
    refine x_mput ok fX12_260 rfl rfl rfl rfl dX12_readsCommand_78 (by exact ble rfl) ?_
    refine x_vret rfl dX12_readsCommand_81 ?_
    refine ⟨rfl, _, _, rfl, ?_, ?_⟩
    · intro q hq; refine ⟨?_, ?_, ?_⟩ <;> simp (disch := omega) only [upd_ne]
    · exact trivial
  · first | refine x_aload_n 1 dX12_readsCommand_37 rfl rfl ?_ | refine x_aload_nN 1 dX12_readsCommand_37 rfl rfl ?_
    refine x_get fX12_45 rfl dX12_readsCommand_38 (by with_reducible repeat first | assumption | exact mH_0 ok | exact mH_1 | exact hset_s | refine mH_o (by first | assumption | exact nA ok (by omega) (by omega) (by omega)) (by first | assumption | exact nA ok (by omega) (by omega) (by omega)) ?_ | refine hget_n (by first | assumption | exact Ne.symm (by assumption) | exact nA ok (by omega) (by omega) (by omega)) ?_) (by rfl) ?_
    refine x_iconst (v := 2) dX12_readsCommand_41 rfl ?_
    first | refine x_aload_n 1 dX12_readsCommand_42 rfl rfl ?_ | refine x_aload_nN 1 dX12_readsCommand_42 rfl rfl ?_
    refine x_get fX12_260 rfl dX12_readsCommand_43 (by with_reducible repeat first | assumption | exact mH_0 ok | exact mH_1 | exact hset_s | refine mH_o (by first | assumption | exact nA ok (by omega) (by omega) (by omega)) (by first | assumption | exact nA ok (by omega) (by omega) (by omega)) ?_ | refine hget_n (by first | assumption | exact Ne.symm (by assumption) | exact nA ok (by omega) (by omega) (by omega)) ?_) (by rfl) ?_
    refine x_imul dX12_readsCommand_46 ?_
    rw [show (2 : Int32) = nI 2 from rfl, pk_mul]
    refine x_iconst (v := 1) dX12_readsCommand_47 rfl ?_
    refine x_iadd dX12_readsCommand_48 ?_
    rw [nI_1]
    first | refine x_aload_n 1 dX12_readsCommand_49 rfl rfl ?_ | refine x_aload_nN 1 dX12_readsCommand_49 rfl rfl ?_
    refine x_iload_n 0 dX12_readsCommand_50 rfl rfl ?_
    refine x_bipush (v := 6) dX12_readsCommand_51 rfl ?_
    refine x_icmp_eq 62 dX12_readsCommand_53 (by decide) (fun c53 => ?_) (fun c53 => ?_)
    · refine x_iconst (v := 1) dX12_readsCommand_62 rfl ?_
      refine x_goto 67 dX12_readsCommand_63 (by decide) ?_
      refine x_cV1 (As := [.int _]) (ct_num_w ok (nIm (p := a + wl v) (by omega))) vX12_263 rfl (x_recv (by with_reducible repeat first | assumption | exact mH_0 ok | exact mH_1 | exact hset_s | refine mH_o (by first | assumption | exact nA ok (by omega) (by omega) (by omega)) (by first | assumption | exact nA ok (by omega) (by omega) (by omega)) ?_ | refine hget_n (by first | assumption | exact Ne.symm (by assumption) | exact nA ok (by omega) (by omega) (by omega)) ?_) rfl) rfl ⟨ble rfl, ble rfl⟩ (ble rfl) dX12_readsCommand_67 rfl ?_
      refine x_iastn dX12_readsCommand_70 (by with_reducible repeat first | assumption | exact mH_0 ok | exact mH_1 | exact hset_s | refine mH_o (by first | assumption | exact nA ok (by omega) (by omega) (by omega)) (by first | assumption | exact nA ok (by omega) (by omega) (by omega)) ?_ | refine hget_n (by first | assumption | exact Ne.symm (by assumption) | exact nA ok (by omega) (by omega) (by omega)) ?_) (by omega) (by first | decide | omega) (by first | assumption | exact aA (by assumption) (by omega)) ?_
      first | (refine x_eqH (h' := mH G (hset (hset h (Ad G 30) (eI G 16 (upd kd ci (nI (5 + v))))) (Ad G 31) (eI G 32 (upd (upd nb (2 * ci) 0) (2 * ci + 1) 0))) (eMd G sv rem typ err lin why wha beh its (nI tx.length) (nI (a + wl v)) (nI (a + wl v)) (nI ci)) N) ((mH_c m31.1 m31.2).trans (by rw [hset_2])) ?_) | skip
      first | refine x_aload_n 1 dX12_readsCommand_71 rfl rfl ?_ | refine x_aload_nN 1 dX12_readsCommand_71 rfl rfl ?_
      refine x_dup dX12_readsCommand_72 rfl ?_
      refine x_get fX12_260 rfl dX12_readsCommand_73 (by with_reducible repeat first | assumption | exact mH_0 ok | exact mH_1 | exact hset_s | refine mH_o (by first | assumption | exact nA ok (by omega) (by omega) (by omega)) (by first | assumption | exact nA ok (by omega) (by omega) (by omega)) ?_ | refine hget_n (by first | assumption | exact Ne.symm (by assumption) | exact nA ok (by omega) (by omega) (by omega)) ?_) (by rfl) ?_
      refine x_iconst (v := 1) dX12_readsCommand_76 rfl ?_
      refine x_iadd dX12_readsCommand_77 ?_
      rw [nI_1]
      refine x_mput ok fX12_260 rfl rfl rfl rfl dX12_readsCommand_78 (by exact ble rfl) ?_
      refine x_vret rfl dX12_readsCommand_81 ?_
      refine ⟨rfl, _, _, rfl, ?_, ?_⟩
      · intro q hq; refine ⟨?_, ?_, ?_⟩ <;> simp (disch := omega) only [upd_ne]
      · exact trivial
    · refine x_iload_n 0 dX12_readsCommand_56 rfl rfl ?_
      refine x_bipush (v := 8) dX12_readsCommand_57 rfl ?_
      refine x_icmp_ne 66 dX12_readsCommand_59 (by decide) (fun c59 => ?_) (fun c59 => ?_)
      · refine x_iconst (v := 0) dX12_readsCommand_66 rfl ?_
        refine x_cV1 (As := [.int _]) (ct_num_w ok (nIm (p := a + wl v) (by omega))) vX12_263 rfl (x_recv (by with_reducible repeat first | assumption | exact mH_0 ok | exact mH_1 | exact hset_s | refine mH_o (by first | assumption | exact nA ok (by omega) (by omega) (by omega)) (by first | assumption | exact nA ok (by omega) (by omega) (by omega)) ?_ | refine hget_n (by first | assumption | exact Ne.symm (by assumption) | exact nA ok (by omega) (by omega) (by omega)) ?_) rfl) rfl ⟨ble rfl, ble rfl⟩ (ble rfl) dX12_readsCommand_67 rfl ?_
        refine x_iastn dX12_readsCommand_70 (by with_reducible repeat first | assumption | exact mH_0 ok | exact mH_1 | exact hset_s | refine mH_o (by first | assumption | exact nA ok (by omega) (by omega) (by omega)) (by first | assumption | exact nA ok (by omega) (by omega) (by omega)) ?_ | refine hget_n (by first | assumption | exact Ne.symm (by assumption) | exact nA ok (by omega) (by omega) (by omega)) ?_) (by omega) (by first | decide | omega) (by first | assumption | exact aA (by assumption) (by omega)) ?_
        first | (refine x_eqH (h' := mH G (hset (hset h (Ad G 30) (eI G 16 (upd kd ci (nI (5 + v))))) (Ad G 31) (eI G 32 (upd (upd nb (2 * ci) 0) (2 * ci + 1) 0))) (eMd G sv rem typ err lin why wha beh its (nI tx.length) (nI (a + wl v)) (nI (a + wl v)) (nI ci)) N) ((mH_c m31.1 m31.2).trans (by rw [hset_2])) ?_) | skip
        first | refine x_aload_n 1 dX12_readsCommand_71 rfl rfl ?_ | refine x_aload_nN 1 dX12_readsCommand_71 rfl rfl ?_
        refine x_dup dX12_readsCommand_72 rfl ?_
        refine x_get fX12_260 rfl dX12_readsCommand_73 (by with_reducible repeat first | assumption | exact mH_0 ok | exact mH_1 | exact hset_s | refine mH_o (by first | assumption | exact nA ok (by omega) (by omega) (by omega)) (by first | assumption | exact nA ok (by omega) (by omega) (by omega)) ?_ | refine hget_n (by first | assumption | exact Ne.symm (by assumption) | exact nA ok (by omega) (by omega) (by omega)) ?_) (by rfl) ?_
        refine x_iconst (v := 1) dX12_readsCommand_76 rfl ?_
        refine x_iadd dX12_readsCommand_77 ?_
        rw [nI_1]
        refine x_mput ok fX12_260 rfl rfl rfl rfl dX12_readsCommand_78 (by exact ble rfl) ?_
        refine x_vret rfl dX12_readsCommand_81 ?_
        refine ⟨rfl, _, _, rfl, ?_, ?_⟩
        · intro q hq; refine ⟨?_, ?_, ?_⟩ <;> simp (disch := omega) only [upd_ne]
        · exact trivial
      · refine x_iconst (v := 1) dX12_readsCommand_62 rfl ?_
        refine x_goto 67 dX12_readsCommand_63 (by decide) ?_
        refine x_cV1 (As := [.int _]) (ct_num_w ok (nIm (p := a + wl v) (by omega))) vX12_263 rfl (x_recv (by with_reducible repeat first | assumption | exact mH_0 ok | exact mH_1 | exact hset_s | refine mH_o (by first | assumption | exact nA ok (by omega) (by omega) (by omega)) (by first | assumption | exact nA ok (by omega) (by omega) (by omega)) ?_ | refine hget_n (by first | assumption | exact Ne.symm (by assumption) | exact nA ok (by omega) (by omega) (by omega)) ?_) rfl) rfl ⟨ble rfl, ble rfl⟩ (ble rfl) dX12_readsCommand_67 rfl ?_
        refine x_iastn dX12_readsCommand_70 (by with_reducible repeat first | assumption | exact mH_0 ok | exact mH_1 | exact hset_s | refine mH_o (by first | assumption | exact nA ok (by omega) (by omega) (by omega)) (by first | assumption | exact nA ok (by omega) (by omega) (by omega)) ?_ | refine hget_n (by first | assumption | exact Ne.symm (by assumption) | exact nA ok (by omega) (by omega) (by omega)) ?_) (by omega) (by first | decide | omega) (by first | assumption | exact aA (by assumption) (by omega)) ?_
        first | (refine x_eqH (h' := mH G (hset (hset h (Ad G 30) (eI G 16 (upd kd ci (nI (5 + v))))) (Ad G 31) (eI G 32 (upd (upd nb (2 * ci) 0) (2 * ci + 1) 0))) (eMd G sv rem typ err lin why wha beh its (nI tx.length) (nI (a + wl v)) (nI (a + wl v)) (nI ci)) N) ((mH_c m31.1 m31.2).trans (by rw [hset_2])) ?_) | skip
        first | refine x_aload_n 1 dX12_readsCommand_71 rfl rfl ?_ | refine x_aload_nN 1 dX12_readsCommand_71 rfl rfl ?_
        refine x_dup dX12_readsCommand_72 rfl ?_
        refine x_get fX12_260 rfl dX12_readsCommand_73 (by with_reducible repeat first | assumption | exact mH_0 ok | exact mH_1 | exact hset_s | refine mH_o (by first | assumption | exact nA ok (by omega) (by omega) (by omega)) (by first | assumption | exact nA ok (by omega) (by omega) (by omega)) ?_ | refine hget_n (by first | assumption | exact Ne.symm (by assumption) | exact nA ok (by omega) (by omega) (by omega)) ?_) (by rfl) ?_
        refine x_iconst (v := 1) dX12_readsCommand_76 rfl ?_
        refine x_iadd dX12_readsCommand_77 ?_
        rw [nI_1]
        refine x_mput ok fX12_260 rfl rfl rfl rfl dX12_readsCommand_78 (by exact ble rfl) ?_
        refine x_vret rfl dX12_readsCommand_81 ?_
        refine ⟨rfl, _, _, rfl, ?_, ?_⟩
        · intro q hq; refine ⟨?_, ?_, ?_⟩ <;> simp (disch := omega) only [upd_ne]
        · exact trivial
set_option maxRecDepth 100000 in
set_option maxHeartbeats 1000000 in
theorem ct_rc_n {l : Launch} {G : Gl} {h : Hp} {sv rem typ err lin why wha beh its : Int32} {N : Nat → Int32} (ok : Ok G) {tv : Nat → Int32} (htext : h (Ad G 27) = some (eI G 60 tv)) {tx : List Int32} {a : Nat} (hT : ∀ i, i < tx.length → tv i = tx.getD i 0) (h60 : tx.length ≤ 60) (ha60 : a ≤ 60) {kd nb : Nat → Int32} (h30 : h (Ad G 30) = some (eI G 16 kd)) (h31 : h (Ad G 31) = some (eI G 32 nb)) {ci : Nat} (hci : ci < 16) {ml : Nat → Nat} (hml : MlP tx a ml) (hnf : ∀ u, u < 6 → ml u ≠ wl u) : Ct l G mX12_readsCommand 8 (0) (0) [.ref (Ad G 20)] (mH G h (eMd G sv rem typ err lin why wha beh its (nI tx.length) (nI (a)) (-1) (nI ci)) N) (fun w h' => w = none ∧ ∃ kd' nb', h' = mH G (hset (hset h (Ad G 30) (eI G 16 kd')) (Ad G 31) (eI G 32 nb')) (eMd G sv rem typ err lin why wha beh its (nI tx.length) (nI (a)) (nI (faF ml a 6)) (nI (ci + 1))) N ∧ (∀ q, q < ci → kd' q = kd q ∧ nb' (2 * q) = nb (2 * q) ∧ nb' (2 * q + 1) = nb (2 * q + 1)) ∧ True) := by
  have m30 : Ad G 30 ≠ Ad G 20 ∧ Ad G 30 ≠ Ad G 21 := ⟨nA ok (by omega) (by omega) (by omega), nA ok (by omega) (by omega) (by omega)⟩
  have m31 : Ad G 31 ≠ Ad G 20 ∧ Ad G 31 ≠ Ad G 21 := ⟨nA ok (by omega) (by omega) (by omega), nA ok (by omega) (by omega) (by omega)⟩
  have hfl := faF_le (ml := ml) ha60 6 (fun u hu => by have := (hml u (by omega)).1; have := (wl_t u (by omega)).2.2.2.1; omega)
  refine Ct.of (L := [(0, _)]) (by decide) (ble rfl) rfl ?_
  first | refine x_aload_n 0 dX12_readsCommand_0 rfl rfl ?_ | refine x_aload_nN 0 dX12_readsCommand_0 rfl rfl ?_
  refine x_cV1 (As := []) (ct_word_n ok htext hT h60 ha60 hml hnf) vX12_257 rfl (x_recv (by with_reducible repeat first | assumption | exact mH_0 ok | exact mH_1 | exact hset_s | refine mH_o (by first | assumption | exact nA ok (by omega) (by omega) (by omega)) (by first | assumption | exact nA ok (by omega) (by omega) (by omega)) ?_ | refine hget_n (by first | assumption | exact Ne.symm (by assumption) | exact nA ok (by omega) (by omega) (by omega)) ?_) rfl) rfl ⟨ble rfl, ble rfl⟩ (ble rfl) dX12_readsCommand_1 rfl ?_
  refine x_istore_n (L' := [(1, _), (0, _)]) dX12_readsCommand_4 rfl (ble rfl) rfl ?_
  first | refine x_aload_n 1 dX12_readsCommand_5 rfl rfl ?_ | refine x_aload_nN 1 dX12_readsCommand_5 rfl rfl ?_
  refine x_get fX12_42 rfl dX12_readsCommand_6 (by with_reducible repeat first | assumption | exact mH_0 ok | exact mH_1 | exact hset_s | refine mH_o (by first | assumption | exact nA ok (by omega) (by omega) (by omega)) (by first | assumption | exact nA ok (by omega) (by omega) (by omega)) ?_ | refine hget_n (by first | assumption | exact Ne.symm (by assumption) | exact nA ok (by omega) (by omega) (by omega)) ?_) (by rfl) ?_
  first | refine x_aload_n 1 dX12_readsCommand_9 rfl rfl ?_ | refine x_aload_nN 1 dX12_readsCommand_9 rfl rfl ?_
  refine x_get fX12_260 rfl dX12_readsCommand_10 (by with_reducible repeat first | assumption | exact mH_0 ok | exact mH_1 | exact hset_s | refine mH_o (by first | assumption | exact nA ok (by omega) (by omega) (by omega)) (by first | assumption | exact nA ok (by omega) (by omega) (by omega)) ?_ | refine hget_n (by first | assumption | exact Ne.symm (by assumption) | exact nA ok (by omega) (by omega) (by omega)) ?_) (by rfl) ?_
  refine x_iload_n 0 dX12_readsCommand_13 rfl rfl ?_
  refine x_iastn dX12_readsCommand_14 (by with_reducible repeat first | assumption | exact mH_0 ok | exact mH_1 | exact hset_s | refine mH_o (by first | assumption | exact nA ok (by omega) (by omega) (by omega)) (by first | assumption | exact nA ok (by omega) (by omega) (by omega)) ?_ | refine hget_n (by first | assumption | exact Ne.symm (by assumption) | exact nA ok (by omega) (by omega) (by omega)) ?_) (by omega) (by first | decide | omega) (by first | assumption | exact aA (by assumption) (by omega)) ?_
  refine x_eqH (mH_c m30.1 m30.2) ?_
  first | refine x_aload_n 1 dX12_readsCommand_15 rfl rfl ?_ | refine x_aload_nN 1 dX12_readsCommand_15 rfl rfl ?_
  refine x_get fX12_45 rfl dX12_readsCommand_16 (by with_reducible repeat first | assumption | exact mH_0 ok | exact mH_1 | exact hset_s | refine mH_o (by first | assumption | exact nA ok (by omega) (by omega) (by omega)) (by first | assumption | exact nA ok (by omega) (by omega) (by omega)) ?_ | refine hget_n (by first | assumption | exact Ne.symm (by assumption) | exact nA ok (by omega) (by omega) (by omega)) ?_) (by rfl) ?_
  refine x_iconst (v := 2) dX12_readsCommand_19 rfl ?_
  first | refine x_aload_n 1 dX12_readsCommand_20 rfl rfl ?_ | refine x_aload_nN 1 dX12_readsCommand_20 rfl rfl ?_
  refine x_get fX12_260 rfl dX12_readsCommand_21 (by with_reducible repeat first | assumption | exact mH_0 ok | exact mH_1 | exact hset_s | refine mH_o (by first | assumption | exact nA ok (by omega) (by omega) (by omega)) (by first | assumption | exact nA ok (by omega) (by omega) (by omega)) ?_ | refine hget_n (by first | assumption | exact Ne.symm (by assumption) | exact nA ok (by omega) (by omega) (by omega)) ?_) (by rfl) ?_
  refine x_imul dX12_readsCommand_24 ?_
  rw [show (2 : Int32) = nI 2 from rfl, pk_mul]
  first | refine x_aload_n 1 dX12_readsCommand_25 rfl rfl ?_ | refine x_aload_nN 1 dX12_readsCommand_25 rfl rfl ?_
  refine x_iconst (v := 1) dX12_readsCommand_26 rfl ?_
  refine x_cV1 (As := [.int _]) (ct_num_w ok (nIm (p := faF ml a 6) (by omega))) vX12_263 rfl (x_recv (by with_reducible repeat first | assumption | exact mH_0 ok | exact mH_1 | exact hset_s | refine mH_o (by first | assumption | exact nA ok (by omega) (by omega) (by omega)) (by first | assumption | exact nA ok (by omega) (by omega) (by omega)) ?_ | refine hget_n (by first | assumption | exact Ne.symm (by assumption) | exact nA ok (by omega) (by omega) (by omega)) ?_) rfl) rfl ⟨ble rfl, ble rfl⟩ (ble rfl) dX12_readsCommand_27 rfl ?_
  refine x_iastn dX12_readsCommand_30 (by with_reducible repeat first | assumption | exact mH_0 ok | exact mH_1 | exact hset_s | refine mH_o (by first | assumption | exact nA ok (by omega) (by omega) (by omega)) (by first | assumption | exact nA ok (by omega) (by omega) (by omega)) ?_ | refine hget_n (by first | assumption | exact Ne.symm (by assumption) | exact nA ok (by omega) (by omega) (by omega)) ?_) (by omega) (by first | decide | omega) (by first | assumption | exact aA (by assumption) (by omega)) ?_
  refine x_eqH (mH_c m31.1 m31.2) ?_
  refine x_iload_n 0 dX12_readsCommand_31 rfl rfl ?_
  refine x_bipush (v := 10) dX12_readsCommand_32 rfl ?_
  refine x_icmp_ge 71 dX12_readsCommand_34 (by decide) (fun z => by first | exact absurd z (by decide) | exact absurd (by decide) z) (fun _ => ?_)
  first | refine x_aload_n 1 dX12_readsCommand_37 rfl rfl ?_ | refine x_aload_nN 1 dX12_readsCommand_37 rfl rfl ?_
  refine x_get fX12_45 rfl dX12_readsCommand_38 (by with_reducible repeat first | assumption | exact mH_0 ok | exact mH_1 | exact hset_s | refine mH_o (by first | assumption | exact nA ok (by omega) (by omega) (by omega)) (by first | assumption | exact nA ok (by omega) (by omega) (by omega)) ?_ | refine hget_n (by first | assumption | exact Ne.symm (by assumption) | exact nA ok (by omega) (by omega) (by omega)) ?_) (by rfl) ?_
  refine x_iconst (v := 2) dX12_readsCommand_41 rfl ?_
  first | refine x_aload_n 1 dX12_readsCommand_42 rfl rfl ?_ | refine x_aload_nN 1 dX12_readsCommand_42 rfl rfl ?_
  refine x_get fX12_260 rfl dX12_readsCommand_43 (by with_reducible repeat first | assumption | exact mH_0 ok | exact mH_1 | exact hset_s | refine mH_o (by first | assumption | exact nA ok (by omega) (by omega) (by omega)) (by first | assumption | exact nA ok (by omega) (by omega) (by omega)) ?_ | refine hget_n (by first | assumption | exact Ne.symm (by assumption) | exact nA ok (by omega) (by omega) (by omega)) ?_) (by rfl) ?_
  refine x_imul dX12_readsCommand_46 ?_
  rw [show (2 : Int32) = nI 2 from rfl, pk_mul]
  refine x_iconst (v := 1) dX12_readsCommand_47 rfl ?_
  refine x_iadd dX12_readsCommand_48 ?_
  rw [nI_1]
  first | refine x_aload_n 1 dX12_readsCommand_49 rfl rfl ?_ | refine x_aload_nN 1 dX12_readsCommand_49 rfl rfl ?_
  refine x_iload_n 0 dX12_readsCommand_50 rfl rfl ?_
  refine x_bipush (v := 6) dX12_readsCommand_51 rfl ?_
  refine x_icmp_eq 62 dX12_readsCommand_53 (by decide) (fun z => by first | exact absurd z (by decide) | exact absurd (by decide) z) (fun _ => ?_)
  refine x_iload_n 0 dX12_readsCommand_56 rfl rfl ?_
  refine x_bipush (v := 8) dX12_readsCommand_57 rfl ?_
  refine x_icmp_ne 66 dX12_readsCommand_59 (by decide) (fun _ => ?_) (fun z => by first | exact absurd (by decide) z | exact absurd z (by decide))
  refine x_iconst (v := 0) dX12_readsCommand_66 rfl ?_
  refine x_cV1 (As := [.int _]) (ct_num_w ok (nIm (p := faF ml a 6) (by omega))) vX12_263 rfl (x_recv (by with_reducible repeat first | assumption | exact mH_0 ok | exact mH_1 | exact hset_s | refine mH_o (by first | assumption | exact nA ok (by omega) (by omega) (by omega)) (by first | assumption | exact nA ok (by omega) (by omega) (by omega)) ?_ | refine hget_n (by first | assumption | exact Ne.symm (by assumption) | exact nA ok (by omega) (by omega) (by omega)) ?_) rfl) rfl ⟨ble rfl, ble rfl⟩ (ble rfl) dX12_readsCommand_67 rfl ?_
  refine x_iastn dX12_readsCommand_70 (by with_reducible repeat first | assumption | exact mH_0 ok | exact mH_1 | exact hset_s | refine mH_o (by first | assumption | exact nA ok (by omega) (by omega) (by omega)) (by first | assumption | exact nA ok (by omega) (by omega) (by omega)) ?_ | refine hget_n (by first | assumption | exact Ne.symm (by assumption) | exact nA ok (by omega) (by omega) (by omega)) ?_) (by omega) (by first | decide | omega) (by first | assumption | exact aA (by assumption) (by omega)) ?_
  first | (refine x_eqH (h' := mH G (hset (hset h (Ad G 30) (eI G 16 (upd kd ci (5)))) (Ad G 31) (eI G 32 (upd (upd nb (2 * ci) 0) (2 * ci + 1) 0))) (eMd G sv rem typ err lin why wha beh its (nI tx.length) (nI (a)) (nI (faF ml a 6)) (nI ci)) N) ((mH_c m31.1 m31.2).trans (by rw [hset_2])) ?_) | skip
  first | refine x_aload_n 1 dX12_readsCommand_71 rfl rfl ?_ | refine x_aload_nN 1 dX12_readsCommand_71 rfl rfl ?_
  refine x_dup dX12_readsCommand_72 rfl ?_
  refine x_get fX12_260 rfl dX12_readsCommand_73 (by with_reducible repeat first | assumption | exact mH_0 ok | exact mH_1 | exact hset_s | refine mH_o (by first | assumption | exact nA ok (by omega) (by omega) (by omega)) (by first | assumption | exact nA ok (by omega) (by omega) (by omega)) ?_ | refine hget_n (by first | assumption | exact Ne.symm (by assumption) | exact nA ok (by omega) (by omega) (by omega)) ?_) (by rfl) ?_
  refine x_iconst (v := 1) dX12_readsCommand_76 rfl ?_
  refine x_iadd dX12_readsCommand_77 ?_
  rw [nI_1]
  refine x_mput ok fX12_260 rfl rfl rfl rfl dX12_readsCommand_78 (by exact ble rfl) ?_
  refine x_vret rfl dX12_readsCommand_81 ?_
  refine ⟨rfl, _, _, rfl, ?_, ?_⟩
  · intro q hq; refine ⟨?_, ?_, ?_⟩ <;> simp (disch := omega) only [upd_ne]
  · exact trivial
