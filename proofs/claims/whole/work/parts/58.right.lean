theorem h3031 {h : Hp} {a b : Nat} {x y x' y' : va_E} (n : a ≠ b) : hset (hset (hset (hset h a x) b y) a x') b y' = hset (hset h a x') b y' := by
  funext q
  unfold hset
  by_cases q1 : q = b
  · simp [q1]
  · by_cases q2 : q = a
    · simp [q2, n]
    · simp [q1, q2]
set_option maxRecDepth 100000 in
set_option maxHeartbeats 1000000 in
theorem rA_y {l : Launch} {G : Gl} {h : Hp} {sv rem typ err lin why wha beh its : Int32} {N : Nat → Int32} (ok : Ok G) {tv : Nat → Int32} (htext : h (Ad G 27) = some (eI G 60 tv)) {tx : List Int32} (hT : ∀ i, i < tx.length → tv i = tx.getD i 0) (h60 : tx.length ≤ 60) {C0 : CmL} : ∀ (r : CmL) (ci a : Nat) (kd nb : Nat → Int32), C0.drop ci = r → ci ≤ C0.length → (∀ q, q < ci → ∀ c, C0[q]? = some c → kd q = nI (5 + c.1) ∧ nb (2 * q) = c.2.1 ∧ (c.1 < 5 → nb (2 * q + 1) = c.2.2)) → ((r = [] ∧ a = tx.length) ∨ (Sem tx a ∧ ¬ r = [] ∧ Txt tx (a + 1) r)) → a ≤ tx.length → ci + r.length ≤ 16 → XX l G mX12_readsAll (Rm 10 0 0) (KQ G (Rm 10 0 0) (fun w h' => w = none ∧ ∃ kd nb att, h' = (mH G (hset (hset h (Ad G 30) (eI G 16 kd)) (Ad G 31) (eI G 32 nb)) (eMd G sv rem typ err lin why wha beh its (nI tx.length) att (-1) (nI (C0.length))) N) ∧ ∀ q, q < C0.length → ∀ c, C0[q]? = some c → kd q = nI (5 + c.1) ∧ nb (2 * q) = c.2.1 ∧ (c.1 < 5 → nb (2 * q + 1) = c.2.2))) 0 0 19 [(0, .ref (Ad G 20))] [] (mH G (hset (hset h (Ad G 30) (eI G 16 kd)) (Ad G 31) (eI G 32 nb)) (eMd G sv rem typ err lin why wha beh its (nI tx.length) (nI (a)) (-1) (nI (ci))) N)
  | [], ci, a, kd, nb, hd, hcl, En, hr, hal, hci => by
    have e : a = tx.length := hr.elim (fun z => z.2) (fun z => absurd rfl z.2.1)
    have ec : ci = C0.length := by have := congrArg List.length hd; rw [List.length_drop] at this; simp only [List.length_nil] at this; omega
    subst e ec
    first | refine x_aload_n 0 dX12_readsAll_19 rfl rfl ?_ | refine x_aload_nN 0 dX12_readsAll_19 rfl rfl ?_
    refine x_get fX12_248 rfl dX12_readsAll_20 (by with_reducible repeat first | assumption | exact mH_0 ok | exact mH_1 | exact hset_s | refine mH_o (by first | assumption | exact nA ok (by omega) (by omega) (by omega)) (by first | assumption | exact nA ok (by omega) (by omega) (by omega)) ?_ | refine hget_n (by first | assumption | exact Ne.symm (by assumption) | exact nA ok (by omega) (by omega) (by omega)) ?_) (by rfl) ?_
    refine x_iconst (v := -1) dX12_readsAll_23 rfl ?_
    refine x_icmp_ne 62 dX12_readsAll_24 (by decide) (fun z => by first | exact absurd z (fun z => z rfl) | exact absurd (fun z => z rfl) z) (fun _ => ?_)
    first | refine x_aload_n 0 dX12_readsAll_27 rfl rfl ?_ | refine x_aload_nN 0 dX12_readsAll_27 rfl rfl ?_
    refine x_get fX12_242 rfl dX12_readsAll_28 (by with_reducible repeat first | assumption | exact mH_0 ok | exact mH_1 | exact hset_s | refine mH_o (by first | assumption | exact nA ok (by omega) (by omega) (by omega)) (by first | assumption | exact nA ok (by omega) (by omega) (by omega)) ?_ | refine hget_n (by first | assumption | exact Ne.symm (by assumption) | exact nA ok (by omega) (by omega) (by omega)) ?_) (by rfl) ?_
    first | refine x_aload_n 0 dX12_readsAll_31 rfl rfl ?_ | refine x_aload_nN 0 dX12_readsAll_31 rfl rfl ?_
    refine x_get fX12_245 rfl dX12_readsAll_32 (by with_reducible repeat first | assumption | exact mH_0 ok | exact mH_1 | exact hset_s | refine mH_o (by first | assumption | exact nA ok (by omega) (by omega) (by omega)) (by first | assumption | exact nA ok (by omega) (by omega) (by omega)) ?_ | refine hget_n (by first | assumption | exact Ne.symm (by assumption) | exact nA ok (by omega) (by omega) (by omega)) ?_) (by rfl) ?_
    refine x_icmp_ge 62 dX12_readsAll_35 (by decide) (fun _ => ?_) (fun z => by first | exact absurd (Int32.le_refl _) z | exact absurd z (Int32.le_refl _))
    refine x_vret rfl dX12_readsAll_62 ?_
    exact ⟨rfl, kd, nb, _, rfl, En⟩
  | (v, f, s) :: r, ci, a, kd, nb, hd, hcl, En, hr, hal, hci => by
    obtain ⟨qs, -, a2, C, hr2⟩ := hr.resolve_left (fun z => by cases z.1)
    have qs1 := qs.1
    have n3031 := nA ok (show 30 < 3000 by omega) (show 31 < 3000 by omega) (by omega)
    have n27a := nA ok (show 27 < 3000 by omega) (show 30 < 3000 by omega) (by omega)
    have n27b := nA ok (show 27 < 3000 by omega) (show 31 < 3000 by omega) (by omega)
    have ht1 : hset (hset h (Ad G 30) (eI G 16 kd)) (Ad G 31) (eI G 32 nb) (Ad G 27) = some (eI G 60 tv) := hget_n n27b (hget_n n27a htext)
    have h30 : hset (hset h (Ad G 30) (eI G 16 kd)) (Ad G 31) (eI G 32 nb) (Ad G 30) = some (eI G 16 kd) := hget_n n3031 hset_s
    have h31 : hset (hset h (Ad G 30) (eI G 16 kd)) (Ad G 31) (eI G 32 nb) (Ad G 31) = some (eI G 32 nb) := hset_s
    have hle := C.le
    have hci1 : ci + 1 + r.length ≤ 16 := by simp only [List.length_cons] at hci; omega
    have hget : C0[ci]? = some (v, f, s) := by have e := congrArg (fun z => z[0]?) hd; simpa using e
    have hlt := (List.getElem?_eq_some_iff.mp hget).1
    have hd2 : C0.drop (ci + 1) = r := by rw [← List.tail_drop, hd]; rfl
    first | refine x_aload_n 0 dX12_readsAll_19 rfl rfl ?_ | refine x_aload_nN 0 dX12_readsAll_19 rfl rfl ?_
    refine x_get fX12_248 rfl dX12_readsAll_20 (by with_reducible repeat first | assumption | exact mH_0 ok | exact mH_1 | exact hset_s | refine mH_o (by first | assumption | exact nA ok (by omega) (by omega) (by omega)) (by first | assumption | exact nA ok (by omega) (by omega) (by omega)) ?_ | refine hget_n (by first | assumption | exact Ne.symm (by assumption) | exact nA ok (by omega) (by omega) (by omega)) ?_) (by rfl) ?_
    refine x_iconst (v := -1) dX12_readsAll_23 rfl ?_
    refine x_icmp_ne 62 dX12_readsAll_24 (by decide) (fun z => by first | exact absurd z (fun z => z rfl) | exact absurd (fun z => z rfl) z) (fun _ => ?_)
    first | refine x_aload_n 0 dX12_readsAll_27 rfl rfl ?_ | refine x_aload_nN 0 dX12_readsAll_27 rfl rfl ?_
    refine x_get fX12_242 rfl dX12_readsAll_28 (by with_reducible repeat first | assumption | exact mH_0 ok | exact mH_1 | exact hset_s | refine mH_o (by first | assumption | exact nA ok (by omega) (by omega) (by omega)) (by first | assumption | exact nA ok (by omega) (by omega) (by omega)) ?_ | refine hget_n (by first | assumption | exact Ne.symm (by assumption) | exact nA ok (by omega) (by omega) (by omega)) ?_) (by rfl) ?_
    first | refine x_aload_n 0 dX12_readsAll_31 rfl rfl ?_ | refine x_aload_nN 0 dX12_readsAll_31 rfl rfl ?_
    refine x_get fX12_245 rfl dX12_readsAll_32 (by with_reducible repeat first | assumption | exact mH_0 ok | exact mH_1 | exact hset_s | refine mH_o (by first | assumption | exact nA ok (by omega) (by omega) (by omega)) (by first | assumption | exact nA ok (by omega) (by omega) (by omega)) ?_ | refine hget_n (by first | assumption | exact Ne.symm (by assumption) | exact nA ok (by omega) (by omega) (by omega)) ?_) (by rfl) ?_
    refine x_icmp_ge 62 dX12_readsAll_35 (by decide) (fun z => by first | exact absurd z (nI_ge qs.1 (by omega)) | exact absurd (nI_ge qs.1 (by omega)) z) (fun _ => ?_)
    first | refine x_aload_n 0 dX12_readsAll_38 rfl rfl ?_ | refine x_aload_nN 0 dX12_readsAll_38 rfl rfl ?_
    refine x_bipush (v := 59) dX12_readsAll_39 rfl ?_
    refine x_bipush (v := 59) dX12_readsAll_41 rfl ?_
    refine x_cV1 (As := [.int _, .int _]) (ct_takes_y ok ht1 hT h60 (a := a) (by omega) (lo := 59) (hi := 59) qs.1 (by rw [qs.2]; decide)) vX12_254 rfl (x_recv (by with_reducible repeat first | assumption | exact mH_0 ok | exact mH_1 | exact hset_s | refine mH_o (by first | assumption | exact nA ok (by omega) (by omega) (by omega)) (by first | assumption | exact nA ok (by omega) (by omega) (by omega)) ?_ | refine hget_n (by first | assumption | exact Ne.symm (by assumption) | exact nA ok (by omega) (by omega) (by omega)) ?_) rfl) rfl ⟨ble rfl, ble rfl⟩ (ble rfl) dX12_readsAll_43 rfl ?_
    refine x_istore_n (L' := [(1, _), (0, _)]) dX12_readsAll_46 rfl (ble rfl) rfl ?_
    first | refine x_aload_n 1 dX12_readsAll_47 rfl rfl ?_ | refine x_aload_nN 1 dX12_readsAll_47 rfl rfl ?_
    refine x_get fX12_248 rfl dX12_readsAll_48 (by with_reducible repeat first | assumption | exact mH_0 ok | exact mH_1 | exact hset_s | refine mH_o (by first | assumption | exact nA ok (by omega) (by omega) (by omega)) (by first | assumption | exact nA ok (by omega) (by omega) (by omega)) ?_ | refine hget_n (by first | assumption | exact Ne.symm (by assumption) | exact nA ok (by omega) (by omega) (by omega)) ?_) (by rfl) ?_
    refine x_iconst (v := -1) dX12_readsAll_51 rfl ?_
    refine x_icmp_ne 59 dX12_readsAll_52 (by decide) (fun z => by first | exact absurd z (fun z => z rfl) | exact absurd (fun z => z rfl) z) (fun _ => ?_)
    first | refine x_aload_n 1 dX12_readsAll_55 rfl rfl ?_ | refine x_aload_nN 1 dX12_readsAll_55 rfl rfl ?_
    refine x_callW (mc1 := 0) (ms1 := 0) (As := []) (ct_rcOK ok ht1 hT h60 (by omega) h30 h31 (by omega) C) vX12_267 rfl (x_recv (by with_reducible repeat first | assumption | exact mH_0 ok | exact mH_1 | exact hset_s | refine mH_o (by first | assumption | exact nA ok (by omega) (by omega) (by omega)) (by first | assumption | exact nA ok (by omega) (by omega) (by omega)) ?_ | refine hget_n (by first | assumption | exact Ne.symm (by assumption) | exact nA ok (by omega) (by omega) (by omega)) ?_) rfl) rfl ⟨ble rfl, ble rfl⟩ (ble rfl) dX12_readsAll_56 rfl ⟨by omega, by omega⟩ (fun w h1 q1 => ?_)
    obtain ⟨rfl, kd1, nb1, att1, rfl, pr, rfl, e1, e2, e3⟩ := q1
    rw [h3031 n3031]
    refine x_goto 19 dX12_readsAll_59 (by decide) ?_
    refine x_locs (L' := [(0, _)]) [1] rfl ?_
    refine rA_y ok htext hT h60 r (ci + 1) a2 kd1 nb1 hd2 hlt ?_ (hr2.elim (fun z => Or.inl z) (fun z => Or.inr z)) hle.2 hci1
    intro q hq c hc
    rcases (show q < ci ∨ q = ci by omega) with z | rfl
    · obtain ⟨p1, p2, p3⟩ := pr q z
      rw [p1, p2, p3]
      exact En q z c hc
    · rw [hget] at hc; cases hc; exact ⟨e1, e2, e3⟩
theorem Flt.ple {tx : List Int32} {a p : Nat} (F : Flt tx a p) : p ≤ a + tx.length + 10 := by
  rcases F with ⟨-, rfl⟩ | ⟨v, j, hv, -, hj, -, -, rfl⟩ | ⟨v, hv, -, -, rfl⟩ | ⟨v, hv, -, hb, -, rfl⟩ | ⟨v, n, h5, -, hb, hn, D, -, rfl⟩ | ⟨v, n, h5, -, hb, hn, D, hb2, -, rfl⟩
  · omega
  · have := (wl_t v hv).2.2.2.1; omega
  · have := (wl_t v hv).2.2.2.1; omega
  · have := hb.1; omega
  · have := D.le hn; omega
  · have := hb2.1; omega
set_option maxRecDepth 100000 in
set_option maxHeartbeats 1000000 in
theorem rA_n {l : Launch} {G : Gl} {h : Hp} {sv rem typ err lin why wha beh its : Int32} {N : Nat → Int32} (ok : Ok G) {tv : Nat → Int32} (htext : h (Ad G 27) = some (eI G 60 tv)) {tx : List Int32} (hT : ∀ i, i < tx.length → tv i = tx.getD i 0) (h60 : tx.length ≤ 60) {p : Nat} : ∀ (k ci a : Nat) (kd nb : Nat → Int32), (Sem tx a ∧ TxF tx p (a + 1) k) → ci + k < 15 → a ≤ tx.length → XX l G mX12_readsAll (Rm 10 0 0) (KQ G (Rm 10 0 0) (fun w h' => w = none ∧ ∃ kd nb att tol', h' = mH G (hset (hset h (Ad G 30) (eI G 16 kd)) (Ad G 31) (eI G 32 nb)) (eMd G sv rem typ err lin why wha beh its (nI tx.length) att (nI p) tol') N)) 0 0 19 [(0, .ref (Ad G 20))] [] (mH G (hset (hset h (Ad G 30) (eI G 16 kd)) (Ad G 31) (eI G 32 nb)) (eMd G sv rem typ err lin why wha beh its (nI tx.length) (nI (a)) (-1) (nI (ci))) N)
  | 0, ci, a, kd, nb, ⟨qs, hF⟩, hci, hal => by
    have qs1 := qs.1
    have n3031 := nA ok (show 30 < 3000 by omega) (show 31 < 3000 by omega) (by omega)
    have n27a := nA ok (show 27 < 3000 by omega) (show 30 < 3000 by omega) (by omega)
    have n27b := nA ok (show 27 < 3000 by omega) (show 31 < 3000 by omega) (by omega)
    have ht1 : hset (hset h (Ad G 30) (eI G 16 kd)) (Ad G 31) (eI G 32 nb) (Ad G 27) = some (eI G 60 tv) := hget_n n27b (hget_n n27a htext)
    have h30 : hset (hset h (Ad G 30) (eI G 16 kd)) (Ad G 31) (eI G 32 nb) (Ad G 30) = some (eI G 16 kd) := hget_n n3031 hset_s
    have h31 : hset (hset h (Ad G 30) (eI G 16 kd)) (Ad G 31) (eI G 32 nb) (Ad G 31) = some (eI G 32 nb) := hset_s
    rcases hF with F | ⟨v, f, s, C, e, q⟩
    · first | refine x_aload_n 0 dX12_readsAll_19 rfl rfl ?_ | refine x_aload_nN 0 dX12_readsAll_19 rfl rfl ?_
      refine x_get fX12_248 rfl dX12_readsAll_20 (by with_reducible repeat first | assumption | exact mH_0 ok | exact mH_1 | exact hset_s | refine mH_o (by first | assumption | exact nA ok (by omega) (by omega) (by omega)) (by first | assumption | exact nA ok (by omega) (by omega) (by omega)) ?_ | refine hget_n (by first | assumption | exact Ne.symm (by assumption) | exact nA ok (by omega) (by omega) (by omega)) ?_) (by rfl) ?_
      refine x_iconst (v := -1) dX12_readsAll_23 rfl ?_
      refine x_icmp_ne 62 dX12_readsAll_24 (by decide) (fun z => by first | exact absurd z (fun z => z rfl) | exact absurd (fun z => z rfl) z) (fun _ => ?_)
      first | refine x_aload_n 0 dX12_readsAll_27 rfl rfl ?_ | refine x_aload_nN 0 dX12_readsAll_27 rfl rfl ?_
      refine x_get fX12_242 rfl dX12_readsAll_28 (by with_reducible repeat first | assumption | exact mH_0 ok | exact mH_1 | exact hset_s | refine mH_o (by first | assumption | exact nA ok (by omega) (by omega) (by omega)) (by first | assumption | exact nA ok (by omega) (by omega) (by omega)) ?_ | refine hget_n (by first | assumption | exact Ne.symm (by assumption) | exact nA ok (by omega) (by omega) (by omega)) ?_) (by rfl) ?_
      first | refine x_aload_n 0 dX12_readsAll_31 rfl rfl ?_ | refine x_aload_nN 0 dX12_readsAll_31 rfl rfl ?_
      refine x_get fX12_245 rfl dX12_readsAll_32 (by with_reducible repeat first | assumption | exact mH_0 ok | exact mH_1 | exact hset_s | refine mH_o (by first | assumption | exact nA ok (by omega) (by omega) (by omega)) (by first | assumption | exact nA ok (by omega) (by omega) (by omega)) ?_ | refine hget_n (by first | assumption | exact Ne.symm (by assumption) | exact nA ok (by omega) (by omega) (by omega)) ?_) (by rfl) ?_
      refine x_icmp_ge 62 dX12_readsAll_35 (by decide) (fun z => by first | exact absurd z (nI_ge qs.1 (by omega)) | exact absurd (nI_ge qs.1 (by omega)) z) (fun _ => ?_)
      first | refine x_aload_n 0 dX12_readsAll_38 rfl rfl ?_ | refine x_aload_nN 0 dX12_readsAll_38 rfl rfl ?_
      refine x_bipush (v := 59) dX12_readsAll_39 rfl ?_
      refine x_bipush (v := 59) dX12_readsAll_41 rfl ?_
      refine x_cV1 (As := [.int _, .int _]) (ct_takes_y ok ht1 hT h60 (a := a) (by omega) (lo := 59) (hi := 59) qs.1 (by rw [qs.2]; decide)) vX12_254 rfl (x_recv (by with_reducible repeat first | assumption | exact mH_0 ok | exact mH_1 | exact hset_s | refine mH_o (by first | assumption | exact nA ok (by omega) (by omega) (by omega)) (by first | assumption | exact nA ok (by omega) (by omega) (by omega)) ?_ | refine hget_n (by first | assumption | exact Ne.symm (by assumption) | exact nA ok (by omega) (by omega) (by omega)) ?_) rfl) rfl ⟨ble rfl, ble rfl⟩ (ble rfl) dX12_readsAll_43 rfl ?_
      refine x_istore_n (L' := [(1, _), (0, _)]) dX12_readsAll_46 rfl (ble rfl) rfl ?_
      first | refine x_aload_n 1 dX12_readsAll_47 rfl rfl ?_ | refine x_aload_nN 1 dX12_readsAll_47 rfl rfl ?_
      refine x_get fX12_248 rfl dX12_readsAll_48 (by with_reducible repeat first | assumption | exact mH_0 ok | exact mH_1 | exact hset_s | refine mH_o (by first | assumption | exact nA ok (by omega) (by omega) (by omega)) (by first | assumption | exact nA ok (by omega) (by omega) (by omega)) ?_ | refine hget_n (by first | assumption | exact Ne.symm (by assumption) | exact nA ok (by omega) (by omega) (by omega)) ?_) (by rfl) ?_
      refine x_iconst (v := -1) dX12_readsAll_51 rfl ?_
      refine x_icmp_ne 59 dX12_readsAll_52 (by decide) (fun z => by first | exact absurd z (fun z => z rfl) | exact absurd (fun z => z rfl) z) (fun _ => ?_)
      first | refine x_aload_n 1 dX12_readsAll_55 rfl rfl ?_ | refine x_aload_nN 1 dX12_readsAll_55 rfl rfl ?_
      refine x_callW (mc1 := 0) (ms1 := 0) (As := []) (ct_rcNo ok ht1 hT h60 (by omega) h30 h31 (by omega) F) vX12_267 rfl (x_recv (by with_reducible repeat first | assumption | exact mH_0 ok | exact mH_1 | exact hset_s | refine mH_o (by first | assumption | exact nA ok (by omega) (by omega) (by omega)) (by first | assumption | exact nA ok (by omega) (by omega) (by omega)) ?_ | refine hget_n (by first | assumption | exact Ne.symm (by assumption) | exact nA ok (by omega) (by omega) (by omega)) ?_) rfl) rfl ⟨ble rfl, ble rfl⟩ (ble rfl) dX12_readsAll_56 rfl ⟨by omega, by omega⟩ (fun w h1 q1 => ?_)
      obtain ⟨rfl, kd1, nb1, att1, rfl, -, -⟩ := q1
      rw [h3031 n3031]
      have hnp : ¬ nI p = -1 := nIm (by have := F.ple; have := qs.1; omega)
      refine x_goto 19 dX12_readsAll_59 (by decide) ?_
      refine x_locs (L' := [(0, _)]) [1] rfl ?_
      first | refine x_aload_n 0 dX12_readsAll_19 rfl rfl ?_ | refine x_aload_nN 0 dX12_readsAll_19 rfl rfl ?_
      refine x_get fX12_248 rfl dX12_readsAll_20 (by with_reducible repeat first | assumption | exact mH_0 ok | exact mH_1 | exact hset_s | refine mH_o (by first | assumption | exact nA ok (by omega) (by omega) (by omega)) (by first | assumption | exact nA ok (by omega) (by omega) (by omega)) ?_ | refine hget_n (by first | assumption | exact Ne.symm (by assumption) | exact nA ok (by omega) (by omega) (by omega)) ?_) (by rfl) ?_
      refine x_iconst (v := -1) dX12_readsAll_23 rfl ?_
      refine x_icmp_ne 62 dX12_readsAll_24 (by decide) (fun _ => ?_) (fun z => by first | exact absurd (hnp) z | exact absurd z (hnp))
      refine x_vret rfl dX12_readsAll_62 ?_
      exact ⟨rfl, _, _, _, _, rfl⟩
    · have hle := C.le
      first | refine x_aload_n 0 dX12_readsAll_19 rfl rfl ?_ | refine x_aload_nN 0 dX12_readsAll_19 rfl rfl ?_
      refine x_get fX12_248 rfl dX12_readsAll_20 (by with_reducible repeat first | assumption | exact mH_0 ok | exact mH_1 | exact hset_s | refine mH_o (by first | assumption | exact nA ok (by omega) (by omega) (by omega)) (by first | assumption | exact nA ok (by omega) (by omega) (by omega)) ?_ | refine hget_n (by first | assumption | exact Ne.symm (by assumption) | exact nA ok (by omega) (by omega) (by omega)) ?_) (by rfl) ?_
      refine x_iconst (v := -1) dX12_readsAll_23 rfl ?_
      refine x_icmp_ne 62 dX12_readsAll_24 (by decide) (fun z => by first | exact absurd z (fun z => z rfl) | exact absurd (fun z => z rfl) z) (fun _ => ?_)
      first | refine x_aload_n 0 dX12_readsAll_27 rfl rfl ?_ | refine x_aload_nN 0 dX12_readsAll_27 rfl rfl ?_
      refine x_get fX12_242 rfl dX12_readsAll_28 (by with_reducible repeat first | assumption | exact mH_0 ok | exact mH_1 | exact hset_s | refine mH_o (by first | assumption | exact nA ok (by omega) (by omega) (by omega)) (by first | assumption | exact nA ok (by omega) (by omega) (by omega)) ?_ | refine hget_n (by first | assumption | exact Ne.symm (by assumption) | exact nA ok (by omega) (by omega) (by omega)) ?_) (by rfl) ?_
      first | refine x_aload_n 0 dX12_readsAll_31 rfl rfl ?_ | refine x_aload_nN 0 dX12_readsAll_31 rfl rfl ?_
      refine x_get fX12_245 rfl dX12_readsAll_32 (by with_reducible repeat first | assumption | exact mH_0 ok | exact mH_1 | exact hset_s | refine mH_o (by first | assumption | exact nA ok (by omega) (by omega) (by omega)) (by first | assumption | exact nA ok (by omega) (by omega) (by omega)) ?_ | refine hget_n (by first | assumption | exact Ne.symm (by assumption) | exact nA ok (by omega) (by omega) (by omega)) ?_) (by rfl) ?_
      refine x_icmp_ge 62 dX12_readsAll_35 (by decide) (fun z => by first | exact absurd z (nI_ge qs.1 (by omega)) | exact absurd (nI_ge qs.1 (by omega)) z) (fun _ => ?_)
      first | refine x_aload_n 0 dX12_readsAll_38 rfl rfl ?_ | refine x_aload_nN 0 dX12_readsAll_38 rfl rfl ?_
      refine x_bipush (v := 59) dX12_readsAll_39 rfl ?_
      refine x_bipush (v := 59) dX12_readsAll_41 rfl ?_
      refine x_cV1 (As := [.int _, .int _]) (ct_takes_y ok ht1 hT h60 (a := a) (by omega) (lo := 59) (hi := 59) qs.1 (by rw [qs.2]; decide)) vX12_254 rfl (x_recv (by with_reducible repeat first | assumption | exact mH_0 ok | exact mH_1 | exact hset_s | refine mH_o (by first | assumption | exact nA ok (by omega) (by omega) (by omega)) (by first | assumption | exact nA ok (by omega) (by omega) (by omega)) ?_ | refine hget_n (by first | assumption | exact Ne.symm (by assumption) | exact nA ok (by omega) (by omega) (by omega)) ?_) rfl) rfl ⟨ble rfl, ble rfl⟩ (ble rfl) dX12_readsAll_43 rfl ?_
      refine x_istore_n (L' := [(1, _), (0, _)]) dX12_readsAll_46 rfl (ble rfl) rfl ?_
      first | refine x_aload_n 1 dX12_readsAll_47 rfl rfl ?_ | refine x_aload_nN 1 dX12_readsAll_47 rfl rfl ?_
      refine x_get fX12_248 rfl dX12_readsAll_48 (by with_reducible repeat first | assumption | exact mH_0 ok | exact mH_1 | exact hset_s | refine mH_o (by first | assumption | exact nA ok (by omega) (by omega) (by omega)) (by first | assumption | exact nA ok (by omega) (by omega) (by omega)) ?_ | refine hget_n (by first | assumption | exact Ne.symm (by assumption) | exact nA ok (by omega) (by omega) (by omega)) ?_) (by rfl) ?_
      refine x_iconst (v := -1) dX12_readsAll_51 rfl ?_
      refine x_icmp_ne 59 dX12_readsAll_52 (by decide) (fun z => by first | exact absurd z (fun z => z rfl) | exact absurd (fun z => z rfl) z) (fun _ => ?_)
      first | refine x_aload_n 1 dX12_readsAll_55 rfl rfl ?_ | refine x_aload_nN 1 dX12_readsAll_55 rfl rfl ?_
      refine x_callW (mc1 := 0) (ms1 := 0) (As := []) (ct_rcOK ok ht1 hT h60 (by omega) h30 h31 (by omega) C) vX12_267 rfl (x_recv (by with_reducible repeat first | assumption | exact mH_0 ok | exact mH_1 | exact hset_s | refine mH_o (by first | assumption | exact nA ok (by omega) (by omega) (by omega)) (by first | assumption | exact nA ok (by omega) (by omega) (by omega)) ?_ | refine hget_n (by first | assumption | exact Ne.symm (by assumption) | exact nA ok (by omega) (by omega) (by omega)) ?_) rfl) rfl ⟨ble rfl, ble rfl⟩ (ble rfl) dX12_readsAll_56 rfl ⟨by omega, by omega⟩ (fun w h1 q1 => ?_)
      obtain ⟨rfl, kd1, nb1, att1, rfl, pr, rfl, e1, e2, e3⟩ := q1
      rw [h3031 n3031]
      refine x_goto 19 dX12_readsAll_59 (by decide) ?_
      refine x_locs (L' := [(0, _)]) [1] rfl ?_
      have ht2 : hset (hset h (Ad G 30) (eI G 16 kd1)) (Ad G 31) (eI G 32 nb1) (Ad G 27) = some (eI G 60 tv) := hget_n n27b (hget_n n27a htext)
      have hsg : inI (sg tx p) 59 59 = 0 := by
        unfold sg
        rw [if_pos (show p < tx.length by omega)]
        refine inI_0.mpr ?_
        by_cases y : tx.getD p 0 < 59
        · exact Or.inl y
        · exact Or.inr (Int32.lt_of_le_of_ne (Int32.not_lt.mp y) (fun z => q ⟨by omega, z.symm⟩))
      have hnp : ¬ nI p = -1 := nIm (by omega)
      first | refine x_aload_n 0 dX12_readsAll_19 rfl rfl ?_ | refine x_aload_nN 0 dX12_readsAll_19 rfl rfl ?_
      refine x_get fX12_248 rfl dX12_readsAll_20 (by with_reducible repeat first | assumption | exact mH_0 ok | exact mH_1 | exact hset_s | refine mH_o (by first | assumption | exact nA ok (by omega) (by omega) (by omega)) (by first | assumption | exact nA ok (by omega) (by omega) (by omega)) ?_ | refine hget_n (by first | assumption | exact Ne.symm (by assumption) | exact nA ok (by omega) (by omega) (by omega)) ?_) (by rfl) ?_
      refine x_iconst (v := -1) dX12_readsAll_23 rfl ?_
      refine x_icmp_ne 62 dX12_readsAll_24 (by decide) (fun z => by first | exact absurd z (fun z => z rfl) | exact absurd (fun z => z rfl) z) (fun _ => ?_)
      first | refine x_aload_n 0 dX12_readsAll_27 rfl rfl ?_ | refine x_aload_nN 0 dX12_readsAll_27 rfl rfl ?_
      refine x_get fX12_242 rfl dX12_readsAll_28 (by with_reducible repeat first | assumption | exact mH_0 ok | exact mH_1 | exact hset_s | refine mH_o (by first | assumption | exact nA ok (by omega) (by omega) (by omega)) (by first | assumption | exact nA ok (by omega) (by omega) (by omega)) ?_ | refine hget_n (by first | assumption | exact Ne.symm (by assumption) | exact nA ok (by omega) (by omega) (by omega)) ?_) (by rfl) ?_
      first | refine x_aload_n 0 dX12_readsAll_31 rfl rfl ?_ | refine x_aload_nN 0 dX12_readsAll_31 rfl rfl ?_
      refine x_get fX12_245 rfl dX12_readsAll_32 (by with_reducible repeat first | assumption | exact mH_0 ok | exact mH_1 | exact hset_s | refine mH_o (by first | assumption | exact nA ok (by omega) (by omega) (by omega)) (by first | assumption | exact nA ok (by omega) (by omega) (by omega)) ?_ | refine hget_n (by first | assumption | exact Ne.symm (by assumption) | exact nA ok (by omega) (by omega) (by omega)) ?_) (by rfl) ?_
      refine x_icmp_ge 62 dX12_readsAll_35 (by decide) (fun z => by first | exact absurd z (nI_ge (show p < tx.length by omega) (by omega)) | exact absurd (nI_ge (show p < tx.length by omega) (by omega)) z) (fun _ => ?_)
      first | refine x_aload_n 0 dX12_readsAll_38 rfl rfl ?_ | refine x_aload_nN 0 dX12_readsAll_38 rfl rfl ?_
      refine x_bipush (v := 59) dX12_readsAll_39 rfl ?_
      refine x_bipush (v := 59) dX12_readsAll_41 rfl ?_
      refine x_cV1 (As := [.int _, .int _]) (ct_takes_n ok ht2 hT h60 (a := p) (by omega) (lo := 59) (hi := 59) hsg) vX12_254 rfl (x_recv (by with_reducible repeat first | assumption | exact mH_0 ok | exact mH_1 | exact hset_s | refine mH_o (by first | assumption | exact nA ok (by omega) (by omega) (by omega)) (by first | assumption | exact nA ok (by omega) (by omega) (by omega)) ?_ | refine hget_n (by first | assumption | exact Ne.symm (by assumption) | exact nA ok (by omega) (by omega) (by omega)) ?_) rfl) rfl ⟨ble rfl, ble rfl⟩ (ble rfl) dX12_readsAll_43 rfl ?_
      refine x_istore_n (L' := [(1, _), (0, _)]) dX12_readsAll_46 rfl (ble rfl) rfl ?_
      first | refine x_aload_n 1 dX12_readsAll_47 rfl rfl ?_ | refine x_aload_nN 1 dX12_readsAll_47 rfl rfl ?_
      refine x_get fX12_248 rfl dX12_readsAll_48 (by with_reducible repeat first | assumption | exact mH_0 ok | exact mH_1 | exact hset_s | refine mH_o (by first | assumption | exact nA ok (by omega) (by omega) (by omega)) (by first | assumption | exact nA ok (by omega) (by omega) (by omega)) ?_ | refine hget_n (by first | assumption | exact Ne.symm (by assumption) | exact nA ok (by omega) (by omega) (by omega)) ?_) (by rfl) ?_
      refine x_iconst (v := -1) dX12_readsAll_51 rfl ?_
      refine x_icmp_ne 59 dX12_readsAll_52 (by decide) (fun _ => ?_) (fun z => by first | exact absurd (hnp) z | exact absurd z (hnp))
      refine x_goto 19 dX12_readsAll_59 (by decide) ?_
      refine x_locs (L' := [(0, _)]) [1] rfl ?_
      first | refine x_aload_n 0 dX12_readsAll_19 rfl rfl ?_ | refine x_aload_nN 0 dX12_readsAll_19 rfl rfl ?_
      refine x_get fX12_248 rfl dX12_readsAll_20 (by with_reducible repeat first | assumption | exact mH_0 ok | exact mH_1 | exact hset_s | refine mH_o (by first | assumption | exact nA ok (by omega) (by omega) (by omega)) (by first | assumption | exact nA ok (by omega) (by omega) (by omega)) ?_ | refine hget_n (by first | assumption | exact Ne.symm (by assumption) | exact nA ok (by omega) (by omega) (by omega)) ?_) (by rfl) ?_
      refine x_iconst (v := -1) dX12_readsAll_23 rfl ?_
      refine x_icmp_ne 62 dX12_readsAll_24 (by decide) (fun _ => ?_) (fun z => by first | exact absurd (hnp) z | exact absurd z (hnp))
      refine x_vret rfl dX12_readsAll_62 ?_
      exact ⟨rfl, _, _, _, _, rfl⟩
  | k + 1, ci, a, kd, nb, ⟨qs, v, f, s, a2, C, q2, hF⟩, hci, hal => by
    have qs1 := qs.1
    have n3031 := nA ok (show 30 < 3000 by omega) (show 31 < 3000 by omega) (by omega)
    have n27a := nA ok (show 27 < 3000 by omega) (show 30 < 3000 by omega) (by omega)
    have n27b := nA ok (show 27 < 3000 by omega) (show 31 < 3000 by omega) (by omega)
    have ht1 : hset (hset h (Ad G 30) (eI G 16 kd)) (Ad G 31) (eI G 32 nb) (Ad G 27) = some (eI G 60 tv) := hget_n n27b (hget_n n27a htext)
    have h30 : hset (hset h (Ad G 30) (eI G 16 kd)) (Ad G 31) (eI G 32 nb) (Ad G 30) = some (eI G 16 kd) := hget_n n3031 hset_s
    have h31 : hset (hset h (Ad G 30) (eI G 16 kd)) (Ad G 31) (eI G 32 nb) (Ad G 31) = some (eI G 32 nb) := hset_s
    have hle := C.le
    first | refine x_aload_n 0 dX12_readsAll_19 rfl rfl ?_ | refine x_aload_nN 0 dX12_readsAll_19 rfl rfl ?_
    refine x_get fX12_248 rfl dX12_readsAll_20 (by with_reducible repeat first | assumption | exact mH_0 ok | exact mH_1 | exact hset_s | refine mH_o (by first | assumption | exact nA ok (by omega) (by omega) (by omega)) (by first | assumption | exact nA ok (by omega) (by omega) (by omega)) ?_ | refine hget_n (by first | assumption | exact Ne.symm (by assumption) | exact nA ok (by omega) (by omega) (by omega)) ?_) (by rfl) ?_
    refine x_iconst (v := -1) dX12_readsAll_23 rfl ?_
    refine x_icmp_ne 62 dX12_readsAll_24 (by decide) (fun z => by first | exact absurd z (fun z => z rfl) | exact absurd (fun z => z rfl) z) (fun _ => ?_)
    first | refine x_aload_n 0 dX12_readsAll_27 rfl rfl ?_ | refine x_aload_nN 0 dX12_readsAll_27 rfl rfl ?_
    refine x_get fX12_242 rfl dX12_readsAll_28 (by with_reducible repeat first | assumption | exact mH_0 ok | exact mH_1 | exact hset_s | refine mH_o (by first | assumption | exact nA ok (by omega) (by omega) (by omega)) (by first | assumption | exact nA ok (by omega) (by omega) (by omega)) ?_ | refine hget_n (by first | assumption | exact Ne.symm (by assumption) | exact nA ok (by omega) (by omega) (by omega)) ?_) (by rfl) ?_
    first | refine x_aload_n 0 dX12_readsAll_31 rfl rfl ?_ | refine x_aload_nN 0 dX12_readsAll_31 rfl rfl ?_
    refine x_get fX12_245 rfl dX12_readsAll_32 (by with_reducible repeat first | assumption | exact mH_0 ok | exact mH_1 | exact hset_s | refine mH_o (by first | assumption | exact nA ok (by omega) (by omega) (by omega)) (by first | assumption | exact nA ok (by omega) (by omega) (by omega)) ?_ | refine hget_n (by first | assumption | exact Ne.symm (by assumption) | exact nA ok (by omega) (by omega) (by omega)) ?_) (by rfl) ?_
    refine x_icmp_ge 62 dX12_readsAll_35 (by decide) (fun z => by first | exact absurd z (nI_ge qs.1 (by omega)) | exact absurd (nI_ge qs.1 (by omega)) z) (fun _ => ?_)
    first | refine x_aload_n 0 dX12_readsAll_38 rfl rfl ?_ | refine x_aload_nN 0 dX12_readsAll_38 rfl rfl ?_
    refine x_bipush (v := 59) dX12_readsAll_39 rfl ?_
    refine x_bipush (v := 59) dX12_readsAll_41 rfl ?_
    refine x_cV1 (As := [.int _, .int _]) (ct_takes_y ok ht1 hT h60 (a := a) (by omega) (lo := 59) (hi := 59) qs.1 (by rw [qs.2]; decide)) vX12_254 rfl (x_recv (by with_reducible repeat first | assumption | exact mH_0 ok | exact mH_1 | exact hset_s | refine mH_o (by first | assumption | exact nA ok (by omega) (by omega) (by omega)) (by first | assumption | exact nA ok (by omega) (by omega) (by omega)) ?_ | refine hget_n (by first | assumption | exact Ne.symm (by assumption) | exact nA ok (by omega) (by omega) (by omega)) ?_) rfl) rfl ⟨ble rfl, ble rfl⟩ (ble rfl) dX12_readsAll_43 rfl ?_
    refine x_istore_n (L' := [(1, _), (0, _)]) dX12_readsAll_46 rfl (ble rfl) rfl ?_
    first | refine x_aload_n 1 dX12_readsAll_47 rfl rfl ?_ | refine x_aload_nN 1 dX12_readsAll_47 rfl rfl ?_
    refine x_get fX12_248 rfl dX12_readsAll_48 (by with_reducible repeat first | assumption | exact mH_0 ok | exact mH_1 | exact hset_s | refine mH_o (by first | assumption | exact nA ok (by omega) (by omega) (by omega)) (by first | assumption | exact nA ok (by omega) (by omega) (by omega)) ?_ | refine hget_n (by first | assumption | exact Ne.symm (by assumption) | exact nA ok (by omega) (by omega) (by omega)) ?_) (by rfl) ?_
    refine x_iconst (v := -1) dX12_readsAll_51 rfl ?_
    refine x_icmp_ne 59 dX12_readsAll_52 (by decide) (fun z => by first | exact absurd z (fun z => z rfl) | exact absurd (fun z => z rfl) z) (fun _ => ?_)
    first | refine x_aload_n 1 dX12_readsAll_55 rfl rfl ?_ | refine x_aload_nN 1 dX12_readsAll_55 rfl rfl ?_
    refine x_callW (mc1 := 0) (ms1 := 0) (As := []) (ct_rcOK ok ht1 hT h60 (by omega) h30 h31 (by omega) C) vX12_267 rfl (x_recv (by with_reducible repeat first | assumption | exact mH_0 ok | exact mH_1 | exact hset_s | refine mH_o (by first | assumption | exact nA ok (by omega) (by omega) (by omega)) (by first | assumption | exact nA ok (by omega) (by omega) (by omega)) ?_ | refine hget_n (by first | assumption | exact Ne.symm (by assumption) | exact nA ok (by omega) (by omega) (by omega)) ?_) rfl) rfl ⟨ble rfl, ble rfl⟩ (ble rfl) dX12_readsAll_56 rfl ⟨by omega, by omega⟩ (fun w h1 q1 => ?_)
    obtain ⟨rfl, kd1, nb1, att1, rfl, pr, rfl, e1, e2, e3⟩ := q1
    rw [h3031 n3031]
    refine x_goto 19 dX12_readsAll_59 (by decide) ?_
    refine x_locs (L' := [(0, _)]) [1] rfl ?_
    exact rA_n ok htext hT h60 k (ci + 1) a2 kd1 nb1 ⟨q2, hF⟩ (by omega) hle.2
