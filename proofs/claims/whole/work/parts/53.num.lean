def sg (tx : List Int32) (a : Nat) : Int32 := if a < tx.length then tx.getD a 0 else -1
theorem dgt_i {tx : List Int32} {a : Nat} : dgt tx a ↔ (a < tx.length ∧ ¬ inI (tx.getD a 0) 48 57 = 0) := by
  unfold dgt
  rw [inI_0, not_or, Int32.not_lt, Int32.not_lt]
theorem dgt_s {tx : List Int32} {a : Nat} : ¬ dgt tx a ↔ inI (sg tx a) 48 57 = 0 := by
  rw [dgt_i]
  unfold sg
  by_cases q : a < tx.length
  · rw [if_pos q]
    exact ⟨fun z => Classical.not_not.mp (fun y => z ⟨q, y⟩), fun z y => y.2 z⟩
  · rw [if_neg q]
    exact ⟨fun _ => by decide, fun _ y => q y.1⟩
set_option maxRecDepth 100000 in
set_option maxHeartbeats 1000000 in
theorem ct_X12_sign {l : Launch} {G : Gl} {h : Hp} {sv rem typ err lin why wha beh its wro tol : Int32} {N : Nat → Int32} (ok : Ok G) {tv : Nat → Int32} (htext : h (Ad G 27) = some (eI G 60 tv)) {tx : List Int32} {a : Nat} (hT : ∀ i, i < tx.length → tv i = tx.getD i 0) (h60 : tx.length ≤ 60) (ha60 : a ≤ 60) : CtR l G mX12_sign 1 [.ref (Ad G 20)] (mH G h (eMd G sv rem typ err lin why wha beh its (nI tx.length) (nI (a)) wro tol) N) (some (.int (sg tx a))) (mH G h (eMd G sv rem typ err lin why wha beh its (nI tx.length) (nI (a)) wro tol) N) := by
  refine Ct.of (L := [(0, _)]) (by decide) (ble rfl) rfl ?_
  first | refine x_aload_n 0 dX12_sign_0 rfl rfl ?_ | refine x_aload_nN 0 dX12_sign_0 rfl rfl ?_
  refine x_get fX12_242 rfl dX12_sign_1 (by with_reducible repeat first | assumption | exact mH_0 ok | exact mH_1 | exact hset_s | refine mH_o (by first | assumption | exact nA ok (by omega) (by omega) (by omega)) (by first | assumption | exact nA ok (by omega) (by omega) (by omega)) ?_ | refine hget_n (by first | assumption | exact Ne.symm (by assumption) | exact nA ok (by omega) (by omega) (by omega)) ?_) (by rfl) ?_
  first | refine x_aload_n 0 dX12_sign_4 rfl rfl ?_ | refine x_aload_nN 0 dX12_sign_4 rfl rfl ?_
  refine x_get fX12_245 rfl dX12_sign_5 (by with_reducible repeat first | assumption | exact mH_0 ok | exact mH_1 | exact hset_s | refine mH_o (by first | assumption | exact nA ok (by omega) (by omega) (by omega)) (by first | assumption | exact nA ok (by omega) (by omega) (by omega)) ?_ | refine hget_n (by first | assumption | exact Ne.symm (by assumption) | exact nA ok (by omega) (by omega) (by omega)) ?_) (by rfl) ?_
  refine x_icmp_ge 23 dX12_sign_8 (by decide) (fun c8 => ?_) (fun c8 => ?_)
  · refine x_iconst (v := -1) dX12_sign_23 rfl ?_
    refine x_iret rfl dX12_sign_24 ?_
    refine ⟨congrArg (fun z => some (Value.int z)) ?_, rfl⟩
    unfold sg
    first | (rw [if_neg (fun z => absurd c8 (nI_ge z (by omega)))]; done) | (rw [if_pos hal]; exact hT a hal)
  · first | refine x_aload_n 0 dX12_sign_11 rfl rfl ?_ | refine x_aload_nN 0 dX12_sign_11 rfl rfl ?_
    refine x_get fX12_28 rfl dX12_sign_12 (by with_reducible repeat first | assumption | exact mH_0 ok | exact mH_1 | exact hset_s | refine mH_o (by first | assumption | exact nA ok (by omega) (by omega) (by omega)) (by first | assumption | exact nA ok (by omega) (by omega) (by omega)) ?_ | refine hget_n (by first | assumption | exact Ne.symm (by assumption) | exact nA ok (by omega) (by omega) (by omega)) ?_) (by rfl) ?_
    have hal : a < tx.length := Nat.not_le.mp fun q => c8 (nI_le q (by omega))
    first | refine x_aload_n 0 dX12_sign_15 rfl rfl ?_ | refine x_aload_nN 0 dX12_sign_15 rfl rfl ?_
    refine x_get fX12_242 rfl dX12_sign_16 (by with_reducible repeat first | assumption | exact mH_0 ok | exact mH_1 | exact hset_s | refine mH_o (by first | assumption | exact nA ok (by omega) (by omega) (by omega)) (by first | assumption | exact nA ok (by omega) (by omega) (by omega)) ?_ | refine hget_n (by first | assumption | exact Ne.symm (by assumption) | exact nA ok (by omega) (by omega) (by omega)) ?_) (by rfl) ?_
    refine x_ialdn dX12_sign_19 (by with_reducible repeat first | assumption | exact mH_0 ok | exact mH_1 | exact hset_s | refine mH_o (by first | assumption | exact nA ok (by omega) (by omega) (by omega)) (by first | assumption | exact nA ok (by omega) (by omega) (by omega)) ?_ | refine hget_n (by first | assumption | exact Ne.symm (by assumption) | exact nA ok (by omega) (by omega) (by omega)) ?_) (by omega) (by first | decide | omega) ?_
    refine x_goto 24 dX12_sign_20 (by decide) ?_
    refine x_iret rfl dX12_sign_24 ?_
    refine ⟨congrArg (fun z => some (Value.int z)) ?_, rfl⟩
    unfold sg
    first | (rw [if_neg (fun z => absurd c8 (nI_ge z (by omega)))]; done) | (rw [if_pos hal]; exact hT a hal)
set_option maxRecDepth 100000 in
set_option maxHeartbeats 1000000 in
theorem ct_takes_y {l : Launch} {G : Gl} {h : Hp} {sv rem typ err lin why wha beh its tol : Int32} {N : Nat → Int32} (ok : Ok G) {tv : Nat → Int32} (htext : h (Ad G 27) = some (eI G 60 tv)) {tx : List Int32} {a : Nat} (hT : ∀ i, i < tx.length → tv i = tx.getD i 0) (h60 : tx.length ≤ 60) (ha60 : a ≤ 60) {lo hi : Int32} (hal : a < tx.length) (hc : ¬ inI (tx.getD a 0) lo hi = 0) : CtR l G mX12_takes 3 [.ref (Ad G 20), .int lo, .int hi] (mH G h (eMd G sv rem typ err lin why wha beh its (nI tx.length) (nI (a)) (-1) tol) N) (some (.int (tx.getD a 0 - 48))) (mH G h (eMd G sv rem typ err lin why wha beh its (nI tx.length) (nI (a + 1)) (-1) tol) N) := by
  have hsg : sg tx a = tx.getD a 0 := if_pos hal
  refine Ct.of (L := [(0, _), (1, _), (2, _)]) (by decide) (ble rfl) rfl ?_
  first | refine x_aload_n 0 dX12_takes_0 rfl rfl ?_ | refine x_aload_nN 0 dX12_takes_0 rfl rfl ?_
  refine x_get fX12_248 rfl dX12_takes_1 (by with_reducible repeat first | assumption | exact mH_0 ok | exact mH_1 | exact hset_s | refine mH_o (by first | assumption | exact nA ok (by omega) (by omega) (by omega)) (by first | assumption | exact nA ok (by omega) (by omega) (by omega)) ?_ | refine hget_n (by first | assumption | exact Ne.symm (by assumption) | exact nA ok (by omega) (by omega) (by omega)) ?_) (by rfl) ?_
  refine x_iconst (v := -1) dX12_takes_4 rfl ?_
  refine x_icmp_ne 45 dX12_takes_5 (by decide) (fun z => by first | exact absurd z (fun z => z rfl) | exact absurd (fun z => z rfl) z) (fun _ => ?_)
  first | refine x_aload_n 0 dX12_takes_8 rfl rfl ?_ | refine x_aload_nN 0 dX12_takes_8 rfl rfl ?_
  refine x_cV1 (As := []) (ct_X12_sign ok htext hT h60 ha60) vX12_251 rfl (x_recv (by with_reducible repeat first | assumption | exact mH_0 ok | exact mH_1 | exact hset_s | refine mH_o (by first | assumption | exact nA ok (by omega) (by omega) (by omega)) (by first | assumption | exact nA ok (by omega) (by omega) (by omega)) ?_ | refine hget_n (by first | assumption | exact Ne.symm (by assumption) | exact nA ok (by omega) (by omega) (by omega)) ?_) rfl) rfl ⟨ble rfl, ble rfl⟩ (ble rfl) dX12_takes_9 rfl ?_
  rw [hsg]
  refine x_iload_n 1 dX12_takes_12 rfl rfl ?_
  refine x_iload_n 2 dX12_takes_13 rfl rfl ?_
  refine x_cS1 (As := [.int _, .int _, .int _]) (ct_X12_isIn _ _ _) vX12_74 rfl rfl ⟨ble rfl, ble rfl⟩ (ble rfl) dX12_takes_14 rfl ?_
  refine x_if_eq 45 dX12_takes_17 (by decide) (fun z => by first | exact absurd z (hc) | exact absurd (hc) z) (fun _ => ?_)
  first | refine x_aload_n 0 dX12_takes_20 rfl rfl ?_ | refine x_aload_nN 0 dX12_takes_20 rfl rfl ?_
  refine x_dup dX12_takes_21 rfl ?_
  refine x_get fX12_242 rfl dX12_takes_22 (by with_reducible repeat first | assumption | exact mH_0 ok | exact mH_1 | exact hset_s | refine mH_o (by first | assumption | exact nA ok (by omega) (by omega) (by omega)) (by first | assumption | exact nA ok (by omega) (by omega) (by omega)) ?_ | refine hget_n (by first | assumption | exact Ne.symm (by assumption) | exact nA ok (by omega) (by omega) (by omega)) ?_) (by rfl) ?_
  refine x_iconst (v := 1) dX12_takes_25 rfl ?_
  refine x_iadd dX12_takes_26 ?_
  rw [nI_1]
  refine x_mput ok fX12_242 rfl rfl rfl rfl dX12_takes_27 (by exact ble rfl) ?_
  first | refine x_aload_n 0 dX12_takes_30 rfl rfl ?_ | refine x_aload_nN 0 dX12_takes_30 rfl rfl ?_
  refine x_get fX12_28 rfl dX12_takes_31 (by with_reducible repeat first | assumption | exact mH_0 ok | exact mH_1 | exact hset_s | refine mH_o (by first | assumption | exact nA ok (by omega) (by omega) (by omega)) (by first | assumption | exact nA ok (by omega) (by omega) (by omega)) ?_ | refine hget_n (by first | assumption | exact Ne.symm (by assumption) | exact nA ok (by omega) (by omega) (by omega)) ?_) (by rfl) ?_
  first | refine x_aload_n 0 dX12_takes_34 rfl rfl ?_ | refine x_aload_nN 0 dX12_takes_34 rfl rfl ?_
  refine x_get fX12_242 rfl dX12_takes_35 (by with_reducible repeat first | assumption | exact mH_0 ok | exact mH_1 | exact hset_s | refine mH_o (by first | assumption | exact nA ok (by omega) (by omega) (by omega)) (by first | assumption | exact nA ok (by omega) (by omega) (by omega)) ?_ | refine hget_n (by first | assumption | exact Ne.symm (by assumption) | exact nA ok (by omega) (by omega) (by omega)) ?_) (by rfl) ?_
  refine x_iconst (v := 1) dX12_takes_38 rfl ?_
  refine x_isub dX12_takes_39 ?_
  rw [show nI (a + 1) - 1 = nI a from nI_pred a]
  refine x_ialdn dX12_takes_40 (by with_reducible repeat first | assumption | exact mH_0 ok | exact mH_1 | exact hset_s | refine mH_o (by first | assumption | exact nA ok (by omega) (by omega) (by omega)) (by first | assumption | exact nA ok (by omega) (by omega) (by omega)) ?_ | refine hget_n (by first | assumption | exact Ne.symm (by assumption) | exact nA ok (by omega) (by omega) (by omega)) ?_) (by omega) (by first | decide | omega) ?_
  rw [hT a hal]
  refine x_bipush (v := 48) dX12_takes_41 rfl ?_
  refine x_isub dX12_takes_43 ?_
  refine x_iret rfl dX12_takes_44 ?_
  exact ⟨rfl, rfl⟩
set_option maxRecDepth 100000 in
set_option maxHeartbeats 1000000 in
theorem ct_takes_n {l : Launch} {G : Gl} {h : Hp} {sv rem typ err lin why wha beh its tol : Int32} {N : Nat → Int32} (ok : Ok G) {tv : Nat → Int32} (htext : h (Ad G 27) = some (eI G 60 tv)) {tx : List Int32} {a : Nat} (hT : ∀ i, i < tx.length → tv i = tx.getD i 0) (h60 : tx.length ≤ 60) (ha60 : a ≤ 60) {lo hi : Int32} (hc : inI (sg tx a) lo hi = 0) : CtR l G mX12_takes 3 [.ref (Ad G 20), .int lo, .int hi] (mH G h (eMd G sv rem typ err lin why wha beh its (nI tx.length) (nI (a)) (-1) tol) N) (some (.int 0)) (mH G h (eMd G sv rem typ err lin why wha beh its (nI tx.length) (nI (a)) (nI a) tol) N) := by
  refine Ct.of (L := [(0, _), (1, _), (2, _)]) (by decide) (ble rfl) rfl ?_
  first | refine x_aload_n 0 dX12_takes_0 rfl rfl ?_ | refine x_aload_nN 0 dX12_takes_0 rfl rfl ?_
  refine x_get fX12_248 rfl dX12_takes_1 (by with_reducible repeat first | assumption | exact mH_0 ok | exact mH_1 | exact hset_s | refine mH_o (by first | assumption | exact nA ok (by omega) (by omega) (by omega)) (by first | assumption | exact nA ok (by omega) (by omega) (by omega)) ?_ | refine hget_n (by first | assumption | exact Ne.symm (by assumption) | exact nA ok (by omega) (by omega) (by omega)) ?_) (by rfl) ?_
  refine x_iconst (v := -1) dX12_takes_4 rfl ?_
  refine x_icmp_ne 45 dX12_takes_5 (by decide) (fun z => by first | exact absurd z (fun z => z rfl) | exact absurd (fun z => z rfl) z) (fun _ => ?_)
  first | refine x_aload_n 0 dX12_takes_8 rfl rfl ?_ | refine x_aload_nN 0 dX12_takes_8 rfl rfl ?_
  refine x_cV1 (As := []) (ct_X12_sign ok htext hT h60 ha60) vX12_251 rfl (x_recv (by with_reducible repeat first | assumption | exact mH_0 ok | exact mH_1 | exact hset_s | refine mH_o (by first | assumption | exact nA ok (by omega) (by omega) (by omega)) (by first | assumption | exact nA ok (by omega) (by omega) (by omega)) ?_ | refine hget_n (by first | assumption | exact Ne.symm (by assumption) | exact nA ok (by omega) (by omega) (by omega)) ?_) rfl) rfl ⟨ble rfl, ble rfl⟩ (ble rfl) dX12_takes_9 rfl ?_
  refine x_iload_n 1 dX12_takes_12 rfl rfl ?_
  refine x_iload_n 2 dX12_takes_13 rfl rfl ?_
  refine x_cS1 (As := [.int _, .int _, .int _]) (ct_X12_isIn _ _ _) vX12_74 rfl rfl ⟨ble rfl, ble rfl⟩ (ble rfl) dX12_takes_14 rfl ?_
  refine x_if_eq 45 dX12_takes_17 (by decide) (fun _ => ?_) (fun z => by first | exact absurd (hc) z | exact absurd z (hc))
  first | refine x_aload_n 0 dX12_takes_45 rfl rfl ?_ | refine x_aload_nN 0 dX12_takes_45 rfl rfl ?_
  first | refine x_aload_n 0 dX12_takes_46 rfl rfl ?_ | refine x_aload_nN 0 dX12_takes_46 rfl rfl ?_
  refine x_get fX12_248 rfl dX12_takes_47 (by with_reducible repeat first | assumption | exact mH_0 ok | exact mH_1 | exact hset_s | refine mH_o (by first | assumption | exact nA ok (by omega) (by omega) (by omega)) (by first | assumption | exact nA ok (by omega) (by omega) (by omega)) ?_ | refine hget_n (by first | assumption | exact Ne.symm (by assumption) | exact nA ok (by omega) (by omega) (by omega)) ?_) (by rfl) ?_
  refine x_iconst (v := -1) dX12_takes_50 rfl ?_
  refine x_icmp_ne 61 dX12_takes_51 (by decide) (fun z => by first | exact absurd z (fun z => z rfl) | exact absurd (fun z => z rfl) z) (fun _ => ?_)
  first | refine x_aload_n 0 dX12_takes_54 rfl rfl ?_ | refine x_aload_nN 0 dX12_takes_54 rfl rfl ?_
  refine x_get fX12_242 rfl dX12_takes_55 (by with_reducible repeat first | assumption | exact mH_0 ok | exact mH_1 | exact hset_s | refine mH_o (by first | assumption | exact nA ok (by omega) (by omega) (by omega)) (by first | assumption | exact nA ok (by omega) (by omega) (by omega)) ?_ | refine hget_n (by first | assumption | exact Ne.symm (by assumption) | exact nA ok (by omega) (by omega) (by omega)) ?_) (by rfl) ?_
  refine x_goto 65 dX12_takes_58 (by decide) ?_
  refine x_mput ok fX12_248 rfl rfl rfl rfl dX12_takes_65 (by exact ble rfl) ?_
  refine x_iconst (v := 0) dX12_takes_68 rfl ?_
  refine x_iret rfl dX12_takes_69 ?_
  exact ⟨rfl, rfl⟩
set_option maxRecDepth 100000 in
set_option maxHeartbeats 1000000 in
theorem ct_takes_w {l : Launch} {G : Gl} {h : Hp} {sv rem typ err lin why wha beh its siz att wro tol : Int32} {N : Nat → Int32} (ok : Ok G) {lo hi : Int32} (hw : ¬ wro = -1) : CtR l G mX12_takes 3 [.ref (Ad G 20), .int lo, .int hi] (mH G h (eMd G sv rem typ err lin why wha beh its siz att wro tol) N) (some (.int 0)) (mH G h (eMd G sv rem typ err lin why wha beh its siz att wro tol) N) := by
  refine Ct.of (L := [(0, _), (1, _), (2, _)]) (by decide) (ble rfl) rfl ?_
  first | refine x_aload_n 0 dX12_takes_0 rfl rfl ?_ | refine x_aload_nN 0 dX12_takes_0 rfl rfl ?_
  refine x_get fX12_248 rfl dX12_takes_1 (by with_reducible repeat first | assumption | exact mH_0 ok | exact mH_1 | exact hset_s | refine mH_o (by first | assumption | exact nA ok (by omega) (by omega) (by omega)) (by first | assumption | exact nA ok (by omega) (by omega) (by omega)) ?_ | refine hget_n (by first | assumption | exact Ne.symm (by assumption) | exact nA ok (by omega) (by omega) (by omega)) ?_) (by rfl) ?_
  refine x_iconst (v := -1) dX12_takes_4 rfl ?_
  refine x_icmp_ne 45 dX12_takes_5 (by decide) (fun _ => ?_) (fun z => by first | exact absurd (hw) z | exact absurd z (hw))
  first | refine x_aload_n 0 dX12_takes_45 rfl rfl ?_ | refine x_aload_nN 0 dX12_takes_45 rfl rfl ?_
  first | refine x_aload_n 0 dX12_takes_46 rfl rfl ?_ | refine x_aload_nN 0 dX12_takes_46 rfl rfl ?_
  refine x_get fX12_248 rfl dX12_takes_47 (by with_reducible repeat first | assumption | exact mH_0 ok | exact mH_1 | exact hset_s | refine mH_o (by first | assumption | exact nA ok (by omega) (by omega) (by omega)) (by first | assumption | exact nA ok (by omega) (by omega) (by omega)) ?_ | refine hget_n (by first | assumption | exact Ne.symm (by assumption) | exact nA ok (by omega) (by omega) (by omega)) ?_) (by rfl) ?_
  refine x_iconst (v := -1) dX12_takes_50 rfl ?_
  refine x_icmp_ne 61 dX12_takes_51 (by decide) (fun _ => ?_) (fun z => by first | exact absurd (hw) z | exact absurd z (hw))
  first | refine x_aload_n 0 dX12_takes_61 rfl rfl ?_ | refine x_aload_nN 0 dX12_takes_61 rfl rfl ?_
  refine x_get fX12_248 rfl dX12_takes_62 (by with_reducible repeat first | assumption | exact mH_0 ok | exact mH_1 | exact hset_s | refine mH_o (by first | assumption | exact nA ok (by omega) (by omega) (by omega)) (by first | assumption | exact nA ok (by omega) (by omega) (by omega)) ?_ | refine hget_n (by first | assumption | exact Ne.symm (by assumption) | exact nA ok (by omega) (by omega) (by omega)) ?_) (by rfl) ?_
  refine x_mput ok fX12_248 rfl rfl rfl rfl dX12_takes_65 (by exact ble rfl) ?_
  refine x_iconst (v := 0) dX12_takes_68 rfl ?_
  refine x_iret rfl dX12_takes_69 ?_
  exact ⟨rfl, rfl⟩
set_option maxRecDepth 100000 in
set_option maxHeartbeats 1000000 in
theorem ct_num_1 {l : Launch} {G : Gl} {h : Hp} {sv rem typ err lin why wha beh its tol : Int32} {N : Nat → Int32} (ok : Ok G) {tv : Nat → Int32} (htext : h (Ad G 27) = some (eI G 60 tv)) {tx : List Int32} {a : Nat} (hT : ∀ i, i < tx.length → tv i = tx.getD i 0) (h60 : tx.length ≤ 60) (ha60 : a ≤ 60) (hb : a < tx.length ∧ tx.getD a 0 = 32) (hd1 : dgt tx (a + 1)) {z : Int32} (hz : z = 0 ∨ ¬ dgt tx (a + 2)) : CtR l G mX12_number 5 [.ref (Ad G 20), .int z] (mH G h (eMd G sv rem typ err lin why wha beh its (nI tx.length) (nI (a)) (-1) tol) N) (some (.int (tx.getD (a + 1) 0 - 48))) (mH G h (eMd G sv rem typ err lin why wha beh its (nI tx.length) (nI (a + 2)) (-1) tol) N) := by
  have hb32 : ¬ inI (tx.getD a 0) 32 32 = 0 := by rw [hb.2]; decide
  have hl1 := hd1.1
  refine Ct.of (L := [(0, _), (1, _)]) (by decide) (ble rfl) rfl ?_
  first | refine x_aload_n 0 dX12_number_0 rfl rfl ?_ | refine x_aload_nN 0 dX12_number_0 rfl rfl ?_
  refine x_bipush (v := 32) dX12_number_1 rfl ?_
  refine x_bipush (v := 32) dX12_number_3 rfl ?_
  refine x_cV1 (As := [.int _, .int _]) (ct_takes_y ok htext hT h60 ha60 hb.1 hb32) vX12_254 rfl (x_recv (by with_reducible repeat first | assumption | exact mH_0 ok | exact mH_1 | exact hset_s | refine mH_o (by first | assumption | exact nA ok (by omega) (by omega) (by omega)) (by first | assumption | exact nA ok (by omega) (by omega) (by omega)) ?_ | refine hget_n (by first | assumption | exact Ne.symm (by assumption) | exact nA ok (by omega) (by omega) (by omega)) ?_) rfl) rfl ⟨ble rfl, ble rfl⟩ (ble rfl) dX12_number_5 rfl ?_
  refine x_istore_n (L' := [(2, _), (0, _), (1, _)]) dX12_number_8 rfl (ble rfl) rfl ?_
  first | refine x_aload_n 1 dX12_number_9 rfl rfl ?_ | refine x_aload_nN 1 dX12_number_9 rfl rfl ?_
  refine x_bipush (v := 48) dX12_number_10 rfl ?_
  refine x_bipush (v := 57) dX12_number_12 rfl ?_
  refine x_cV1 (As := [.int _, .int _]) (ct_takes_y ok htext hT h60 (a := a + 1) (by omega) (dgt_i.mp hd1).1 (dgt_i.mp hd1).2) vX12_254 rfl (x_recv (by with_reducible repeat first | assumption | exact mH_0 ok | exact mH_1 | exact hset_s | refine mH_o (by first | assumption | exact nA ok (by omega) (by omega) (by omega)) (by first | assumption | exact nA ok (by omega) (by omega) (by omega)) ?_ | refine hget_n (by first | assumption | exact Ne.symm (by assumption) | exact nA ok (by omega) (by omega) (by omega)) ?_) rfl) rfl ⟨ble rfl, ble rfl⟩ (ble rfl) dX12_number_14 rfl ?_
  refine x_istore_n (L' := [(3, _), (2, _), (0, _), (1, _)]) dX12_number_17 rfl (ble rfl) rfl ?_
  refine x_iload_n 3 dX12_number_18 rfl rfl ?_
  refine x_if_eq 60 dX12_number_19 (by decide) (fun c19 => ?_) (fun c19 => ?_)
  · refine x_iload_n 0 dX12_number_60 rfl rfl ?_
    refine x_iret rfl dX12_number_61 ?_
    exact ⟨rfl, rfl⟩
  · first | refine x_aload_n 2 dX12_number_22 rfl rfl ?_ | refine x_aload_nN 2 dX12_number_22 rfl rfl ?_
    refine x_get fX12_248 rfl dX12_number_23 (by with_reducible repeat first | assumption | exact mH_0 ok | exact mH_1 | exact hset_s | refine mH_o (by first | assumption | exact nA ok (by omega) (by omega) (by omega)) (by first | assumption | exact nA ok (by omega) (by omega) (by omega)) ?_ | refine hget_n (by first | assumption | exact Ne.symm (by assumption) | exact nA ok (by omega) (by omega) (by omega)) ?_) (by rfl) ?_
    refine x_iconst (v := -1) dX12_number_26 rfl ?_
    refine x_icmp_ne 60 dX12_number_27 (by decide) (fun z => by first | exact absurd z (fun z => z rfl) | exact absurd (fun z => z rfl) z) (fun _ => ?_)
    first | refine x_aload_n 2 dX12_number_30 rfl rfl ?_ | refine x_aload_nN 2 dX12_number_30 rfl rfl ?_
    refine x_cV1 (As := []) (ct_X12_sign ok htext hT h60 (a := a + 2) (by omega)) vX12_251 rfl (x_recv (by with_reducible repeat first | assumption | exact mH_0 ok | exact mH_1 | exact hset_s | refine mH_o (by first | assumption | exact nA ok (by omega) (by omega) (by omega)) (by first | assumption | exact nA ok (by omega) (by omega) (by omega)) ?_ | refine hget_n (by first | assumption | exact Ne.symm (by assumption) | exact nA ok (by omega) (by omega) (by omega)) ?_) rfl) rfl ⟨ble rfl, ble rfl⟩ (ble rfl) dX12_number_31 rfl ?_
    refine x_bipush (v := 48) dX12_number_34 rfl ?_
    refine x_bipush (v := 57) dX12_number_36 rfl ?_
    refine x_cS1 (As := [.int _, .int _, .int _]) (ct_X12_isIn _ _ _) vX12_74 rfl rfl ⟨ble rfl, ble rfl⟩ (ble rfl) dX12_number_38 rfl ?_
    refine x_if_eq 60 dX12_number_41 (by decide) (fun c41 => ?_) (fun c41 => ?_)
    · refine x_iload_n 0 dX12_number_60 rfl rfl ?_
      refine x_iret rfl dX12_number_61 ?_
      exact ⟨rfl, rfl⟩
    · exfalso
      exact hz.elim c19 (fun y => c41 (dgt_s.mp y))
set_option maxRecDepth 100000 in
set_option maxHeartbeats 1000000 in
theorem ct_num_2 {l : Launch} {G : Gl} {h : Hp} {sv rem typ err lin why wha beh its tol : Int32} {N : Nat → Int32} (ok : Ok G) {tv : Nat → Int32} (htext : h (Ad G 27) = some (eI G 60 tv)) {tx : List Int32} {a : Nat} (hT : ∀ i, i < tx.length → tv i = tx.getD i 0) (h60 : tx.length ≤ 60) (ha60 : a ≤ 60) (hb : a < tx.length ∧ tx.getD a 0 = 32) (hd1 : dgt tx (a + 1)) (hd2 : dgt tx (a + 2)) : CtR l G mX12_number 5 [.ref (Ad G 20), .int 1] (mH G h (eMd G sv rem typ err lin why wha beh its (nI tx.length) (nI (a)) (-1) tol) N) (some (.int (10 * (tx.getD (a + 1) 0 - 48) + (tx.getD (a + 2) 0 - 48)))) (mH G h (eMd G sv rem typ err lin why wha beh its (nI tx.length) (nI (a + 3)) (-1) tol) N) := by
  have hb32 : ¬ inI (tx.getD a 0) 32 32 = 0 := by rw [hb.2]; decide
  have hl1 := hd1.1
  have hl2 := hd2.1
  refine Ct.of (L := [(0, _), (1, _)]) (by decide) (ble rfl) rfl ?_
  first | refine x_aload_n 0 dX12_number_0 rfl rfl ?_ | refine x_aload_nN 0 dX12_number_0 rfl rfl ?_
  refine x_bipush (v := 32) dX12_number_1 rfl ?_
  refine x_bipush (v := 32) dX12_number_3 rfl ?_
  refine x_cV1 (As := [.int _, .int _]) (ct_takes_y ok htext hT h60 ha60 hb.1 hb32) vX12_254 rfl (x_recv (by with_reducible repeat first | assumption | exact mH_0 ok | exact mH_1 | exact hset_s | refine mH_o (by first | assumption | exact nA ok (by omega) (by omega) (by omega)) (by first | assumption | exact nA ok (by omega) (by omega) (by omega)) ?_ | refine hget_n (by first | assumption | exact Ne.symm (by assumption) | exact nA ok (by omega) (by omega) (by omega)) ?_) rfl) rfl ⟨ble rfl, ble rfl⟩ (ble rfl) dX12_number_5 rfl ?_
  refine x_istore_n (L' := [(2, _), (0, _), (1, _)]) dX12_number_8 rfl (ble rfl) rfl ?_
  first | refine x_aload_n 1 dX12_number_9 rfl rfl ?_ | refine x_aload_nN 1 dX12_number_9 rfl rfl ?_
  refine x_bipush (v := 48) dX12_number_10 rfl ?_
  refine x_bipush (v := 57) dX12_number_12 rfl ?_
  refine x_cV1 (As := [.int _, .int _]) (ct_takes_y ok htext hT h60 (a := a + 1) (by omega) (dgt_i.mp hd1).1 (dgt_i.mp hd1).2) vX12_254 rfl (x_recv (by with_reducible repeat first | assumption | exact mH_0 ok | exact mH_1 | exact hset_s | refine mH_o (by first | assumption | exact nA ok (by omega) (by omega) (by omega)) (by first | assumption | exact nA ok (by omega) (by omega) (by omega)) ?_ | refine hget_n (by first | assumption | exact Ne.symm (by assumption) | exact nA ok (by omega) (by omega) (by omega)) ?_) rfl) rfl ⟨ble rfl, ble rfl⟩ (ble rfl) dX12_number_14 rfl ?_
  refine x_istore_n (L' := [(3, _), (2, _), (0, _), (1, _)]) dX12_number_17 rfl (ble rfl) rfl ?_
  refine x_iload_n 3 dX12_number_18 rfl rfl ?_
  refine x_if_eq 60 dX12_number_19 (by decide) (fun z => by first | exact absurd z (show ¬ (1 : Int32) = 0 by decide) | exact absurd (show ¬ (1 : Int32) = 0 by decide) z) (fun _ => ?_)
  first | refine x_aload_n 2 dX12_number_22 rfl rfl ?_ | refine x_aload_nN 2 dX12_number_22 rfl rfl ?_
  refine x_get fX12_248 rfl dX12_number_23 (by with_reducible repeat first | assumption | exact mH_0 ok | exact mH_1 | exact hset_s | refine mH_o (by first | assumption | exact nA ok (by omega) (by omega) (by omega)) (by first | assumption | exact nA ok (by omega) (by omega) (by omega)) ?_ | refine hget_n (by first | assumption | exact Ne.symm (by assumption) | exact nA ok (by omega) (by omega) (by omega)) ?_) (by rfl) ?_
  refine x_iconst (v := -1) dX12_number_26 rfl ?_
  refine x_icmp_ne 60 dX12_number_27 (by decide) (fun z => by first | exact absurd z (fun z => z rfl) | exact absurd (fun z => z rfl) z) (fun _ => ?_)
  first | refine x_aload_n 2 dX12_number_30 rfl rfl ?_ | refine x_aload_nN 2 dX12_number_30 rfl rfl ?_
  refine x_cV1 (As := []) (ct_X12_sign ok htext hT h60 (a := a + 2) (by omega)) vX12_251 rfl (x_recv (by with_reducible repeat first | assumption | exact mH_0 ok | exact mH_1 | exact hset_s | refine mH_o (by first | assumption | exact nA ok (by omega) (by omega) (by omega)) (by first | assumption | exact nA ok (by omega) (by omega) (by omega)) ?_ | refine hget_n (by first | assumption | exact Ne.symm (by assumption) | exact nA ok (by omega) (by omega) (by omega)) ?_) rfl) rfl ⟨ble rfl, ble rfl⟩ (ble rfl) dX12_number_31 rfl ?_
  refine x_bipush (v := 48) dX12_number_34 rfl ?_
  refine x_bipush (v := 57) dX12_number_36 rfl ?_
  refine x_cS1 (As := [.int _, .int _, .int _]) (ct_X12_isIn _ _ _) vX12_74 rfl rfl ⟨ble rfl, ble rfl⟩ (ble rfl) dX12_number_38 rfl ?_
  refine x_if_eq 60 dX12_number_41 (by decide) (fun z => by first | exact absurd z (fun z => (dgt_s.mpr z) hd2) | exact absurd (fun z => (dgt_s.mpr z) hd2) z) (fun _ => ?_)
  refine x_bipush (v := 10) dX12_number_44 rfl ?_
  refine x_iload_n 0 dX12_number_46 rfl rfl ?_
  refine x_imul dX12_number_47 ?_
  first | refine x_aload_n 2 dX12_number_48 rfl rfl ?_ | refine x_aload_nN 2 dX12_number_48 rfl rfl ?_
  refine x_bipush (v := 48) dX12_number_49 rfl ?_
  refine x_bipush (v := 57) dX12_number_51 rfl ?_
  refine x_cV1 (As := [.int _, .int _]) (ct_takes_y ok htext hT h60 (a := a + 2) (by omega) (dgt_i.mp hd2).1 (dgt_i.mp hd2).2) vX12_254 rfl (x_recv (by with_reducible repeat first | assumption | exact mH_0 ok | exact mH_1 | exact hset_s | refine mH_o (by first | assumption | exact nA ok (by omega) (by omega) (by omega)) (by first | assumption | exact nA ok (by omega) (by omega) (by omega)) ?_ | refine hget_n (by first | assumption | exact Ne.symm (by assumption) | exact nA ok (by omega) (by omega) (by omega)) ?_) rfl) rfl ⟨ble rfl, ble rfl⟩ (ble rfl) dX12_number_53 rfl ?_
  refine x_iadd dX12_number_56 ?_
  refine x_goto 61 dX12_number_57 (by decide) ?_
  refine x_iret rfl dX12_number_61 ?_
  exact ⟨rfl, rfl⟩
set_option maxRecDepth 100000 in
set_option maxHeartbeats 1000000 in
theorem ct_num_b {l : Launch} {G : Gl} {h : Hp} {sv rem typ err lin why wha beh its tol : Int32} {N : Nat → Int32} (ok : Ok G) {tv : Nat → Int32} (htext : h (Ad G 27) = some (eI G 60 tv)) {tx : List Int32} {a : Nat} (hT : ∀ i, i < tx.length → tv i = tx.getD i 0) (h60 : tx.length ≤ 60) (ha60 : a ≤ 60) (hb : ¬ (a < tx.length ∧ tx.getD a 0 = 32)) {z : Int32} : CtR l G mX12_number 5 [.ref (Ad G 20), .int z] (mH G h (eMd G sv rem typ err lin why wha beh its (nI tx.length) (nI (a)) (-1) tol) N) (some (.int 0)) (mH G h (eMd G sv rem typ err lin why wha beh its (nI tx.length) (nI (a)) (nI a) tol) N) := by
  have hs : inI (sg tx a) 32 32 = 0 := by
    unfold sg
    by_cases q : a < tx.length
    · rw [if_pos q]
      refine inI_0.mpr ?_
      by_cases y : tx.getD a 0 < 32
      · exact Or.inl y
      · exact Or.inr (Int32.lt_of_le_of_ne (Int32.not_lt.mp y) (fun e => hb ⟨q, e.symm⟩))
    · rw [if_neg q]; decide
  have hna : ¬ nI a = -1 := fun e => absurd (show nI a < 0 by rw [e]; decide) (nI_pos (by omega))
  refine Ct.of (L := [(0, _), (1, _)]) (by decide) (ble rfl) rfl ?_
  first | refine x_aload_n 0 dX12_number_0 rfl rfl ?_ | refine x_aload_nN 0 dX12_number_0 rfl rfl ?_
  refine x_bipush (v := 32) dX12_number_1 rfl ?_
  refine x_bipush (v := 32) dX12_number_3 rfl ?_
  refine x_cV1 (As := [.int _, .int _]) (ct_takes_n ok htext hT h60 ha60 hs) vX12_254 rfl (x_recv (by with_reducible repeat first | assumption | exact mH_0 ok | exact mH_1 | exact hset_s | refine mH_o (by first | assumption | exact nA ok (by omega) (by omega) (by omega)) (by first | assumption | exact nA ok (by omega) (by omega) (by omega)) ?_ | refine hget_n (by first | assumption | exact Ne.symm (by assumption) | exact nA ok (by omega) (by omega) (by omega)) ?_) rfl) rfl ⟨ble rfl, ble rfl⟩ (ble rfl) dX12_number_5 rfl ?_
  refine x_istore_n (L' := [(2, _), (0, _), (1, _)]) dX12_number_8 rfl (ble rfl) rfl ?_
  first | refine x_aload_n 1 dX12_number_9 rfl rfl ?_ | refine x_aload_nN 1 dX12_number_9 rfl rfl ?_
  refine x_bipush (v := 48) dX12_number_10 rfl ?_
  refine x_bipush (v := 57) dX12_number_12 rfl ?_
  refine x_cV1 (As := [.int _, .int _]) (ct_takes_w ok hna) vX12_254 rfl (x_recv (by with_reducible repeat first | assumption | exact mH_0 ok | exact mH_1 | exact hset_s | refine mH_o (by first | assumption | exact nA ok (by omega) (by omega) (by omega)) (by first | assumption | exact nA ok (by omega) (by omega) (by omega)) ?_ | refine hget_n (by first | assumption | exact Ne.symm (by assumption) | exact nA ok (by omega) (by omega) (by omega)) ?_) rfl) rfl ⟨ble rfl, ble rfl⟩ (ble rfl) dX12_number_14 rfl ?_
  refine x_istore_n (L' := [(3, _), (2, _), (0, _), (1, _)]) dX12_number_17 rfl (ble rfl) rfl ?_
  refine x_iload_n 3 dX12_number_18 rfl rfl ?_
  refine x_if_eq 60 dX12_number_19 (by decide) (fun c19 => ?_) (fun c19 => ?_)
  · refine x_iload_n 0 dX12_number_60 rfl rfl ?_
    refine x_iret rfl dX12_number_61 ?_
    exact ⟨rfl, rfl⟩
  · first | refine x_aload_n 2 dX12_number_22 rfl rfl ?_ | refine x_aload_nN 2 dX12_number_22 rfl rfl ?_
    refine x_get fX12_248 rfl dX12_number_23 (by with_reducible repeat first | assumption | exact mH_0 ok | exact mH_1 | exact hset_s | refine mH_o (by first | assumption | exact nA ok (by omega) (by omega) (by omega)) (by first | assumption | exact nA ok (by omega) (by omega) (by omega)) ?_ | refine hget_n (by first | assumption | exact Ne.symm (by assumption) | exact nA ok (by omega) (by omega) (by omega)) ?_) (by rfl) ?_
    refine x_iconst (v := -1) dX12_number_26 rfl ?_
    refine x_icmp_ne 60 dX12_number_27 (by decide) (fun _ => ?_) (fun z => by first | exact absurd (hna) z | exact absurd z (hna))
    refine x_iload_n 0 dX12_number_60 rfl rfl ?_
    refine x_iret rfl dX12_number_61 ?_
    exact ⟨rfl, rfl⟩
set_option maxRecDepth 100000 in
set_option maxHeartbeats 1000000 in
theorem ct_num_d {l : Launch} {G : Gl} {h : Hp} {sv rem typ err lin why wha beh its tol : Int32} {N : Nat → Int32} (ok : Ok G) {tv : Nat → Int32} (htext : h (Ad G 27) = some (eI G 60 tv)) {tx : List Int32} {a : Nat} (hT : ∀ i, i < tx.length → tv i = tx.getD i 0) (h60 : tx.length ≤ 60) (ha60 : a ≤ 60) (hb : a < tx.length ∧ tx.getD a 0 = 32) (hd1 : ¬ dgt tx (a + 1)) {z : Int32} : CtR l G mX12_number 5 [.ref (Ad G 20), .int z] (mH G h (eMd G sv rem typ err lin why wha beh its (nI tx.length) (nI (a)) (-1) tol) N) (some (.int 0)) (mH G h (eMd G sv rem typ err lin why wha beh its (nI tx.length) (nI (a + 1)) (nI (a + 1)) tol) N) := by
  have hb32 : ¬ inI (tx.getD a 0) 32 32 = 0 := by rw [hb.2]; decide
  have hna : ¬ nI (a + 1) = -1 := fun e => absurd (show nI (a + 1) < 0 by rw [e]; decide) (nI_pos (by omega))
  refine Ct.of (L := [(0, _), (1, _)]) (by decide) (ble rfl) rfl ?_
  first | refine x_aload_n 0 dX12_number_0 rfl rfl ?_ | refine x_aload_nN 0 dX12_number_0 rfl rfl ?_
  refine x_bipush (v := 32) dX12_number_1 rfl ?_
  refine x_bipush (v := 32) dX12_number_3 rfl ?_
  refine x_cV1 (As := [.int _, .int _]) (ct_takes_y ok htext hT h60 ha60 hb.1 hb32) vX12_254 rfl (x_recv (by with_reducible repeat first | assumption | exact mH_0 ok | exact mH_1 | exact hset_s | refine mH_o (by first | assumption | exact nA ok (by omega) (by omega) (by omega)) (by first | assumption | exact nA ok (by omega) (by omega) (by omega)) ?_ | refine hget_n (by first | assumption | exact Ne.symm (by assumption) | exact nA ok (by omega) (by omega) (by omega)) ?_) rfl) rfl ⟨ble rfl, ble rfl⟩ (ble rfl) dX12_number_5 rfl ?_
  refine x_istore_n (L' := [(2, _), (0, _), (1, _)]) dX12_number_8 rfl (ble rfl) rfl ?_
  first | refine x_aload_n 1 dX12_number_9 rfl rfl ?_ | refine x_aload_nN 1 dX12_number_9 rfl rfl ?_
  refine x_bipush (v := 48) dX12_number_10 rfl ?_
  refine x_bipush (v := 57) dX12_number_12 rfl ?_
  refine x_cV1 (As := [.int _, .int _]) (ct_takes_n ok htext hT h60 (a := a + 1) (by omega) (dgt_s.mp hd1)) vX12_254 rfl (x_recv (by with_reducible repeat first | assumption | exact mH_0 ok | exact mH_1 | exact hset_s | refine mH_o (by first | assumption | exact nA ok (by omega) (by omega) (by omega)) (by first | assumption | exact nA ok (by omega) (by omega) (by omega)) ?_ | refine hget_n (by first | assumption | exact Ne.symm (by assumption) | exact nA ok (by omega) (by omega) (by omega)) ?_) rfl) rfl ⟨ble rfl, ble rfl⟩ (ble rfl) dX12_number_14 rfl ?_
  refine x_istore_n (L' := [(3, _), (2, _), (0, _), (1, _)]) dX12_number_17 rfl (ble rfl) rfl ?_
  refine x_iload_n 3 dX12_number_18 rfl rfl ?_
  refine x_if_eq 60 dX12_number_19 (by decide) (fun c19 => ?_) (fun c19 => ?_)
  · refine x_iload_n 0 dX12_number_60 rfl rfl ?_
    refine x_iret rfl dX12_number_61 ?_
    exact ⟨rfl, rfl⟩
  · first | refine x_aload_n 2 dX12_number_22 rfl rfl ?_ | refine x_aload_nN 2 dX12_number_22 rfl rfl ?_
    refine x_get fX12_248 rfl dX12_number_23 (by with_reducible repeat first | assumption | exact mH_0 ok | exact mH_1 | exact hset_s | refine mH_o (by first | assumption | exact nA ok (by omega) (by omega) (by omega)) (by first | assumption | exact nA ok (by omega) (by omega) (by omega)) ?_ | refine hget_n (by first | assumption | exact Ne.symm (by assumption) | exact nA ok (by omega) (by omega) (by omega)) ?_) (by rfl) ?_
    refine x_iconst (v := -1) dX12_number_26 rfl ?_
    refine x_icmp_ne 60 dX12_number_27 (by decide) (fun _ => ?_) (fun z => by first | exact absurd (hna) z | exact absurd z (hna))
    refine x_iload_n 0 dX12_number_60 rfl rfl ?_
    refine x_iret rfl dX12_number_61 ?_
    exact ⟨rfl, rfl⟩
set_option maxRecDepth 100000 in
set_option maxHeartbeats 1000000 in
theorem ct_num_w {l : Launch} {G : Gl} {h : Hp} {sv rem typ err lin why wha beh its siz att wro tol : Int32} {N : Nat → Int32} (ok : Ok G) {z : Int32} (hw : ¬ wro = -1) : CtR l G mX12_number 5 [.ref (Ad G 20), .int z] (mH G h (eMd G sv rem typ err lin why wha beh its siz att wro tol) N) (some (.int 0)) (mH G h (eMd G sv rem typ err lin why wha beh its siz att wro tol) N) := by
  refine Ct.of (L := [(0, _), (1, _)]) (by decide) (ble rfl) rfl ?_
  first | refine x_aload_n 0 dX12_number_0 rfl rfl ?_ | refine x_aload_nN 0 dX12_number_0 rfl rfl ?_
  refine x_bipush (v := 32) dX12_number_1 rfl ?_
  refine x_bipush (v := 32) dX12_number_3 rfl ?_
  refine x_cV1 (As := [.int _, .int _]) (ct_takes_w ok hw) vX12_254 rfl (x_recv (by with_reducible repeat first | assumption | exact mH_0 ok | exact mH_1 | exact hset_s | refine mH_o (by first | assumption | exact nA ok (by omega) (by omega) (by omega)) (by first | assumption | exact nA ok (by omega) (by omega) (by omega)) ?_ | refine hget_n (by first | assumption | exact Ne.symm (by assumption) | exact nA ok (by omega) (by omega) (by omega)) ?_) rfl) rfl ⟨ble rfl, ble rfl⟩ (ble rfl) dX12_number_5 rfl ?_
  refine x_istore_n (L' := [(2, _), (0, _), (1, _)]) dX12_number_8 rfl (ble rfl) rfl ?_
  first | refine x_aload_n 1 dX12_number_9 rfl rfl ?_ | refine x_aload_nN 1 dX12_number_9 rfl rfl ?_
  refine x_bipush (v := 48) dX12_number_10 rfl ?_
  refine x_bipush (v := 57) dX12_number_12 rfl ?_
  refine x_cV1 (As := [.int _, .int _]) (ct_takes_w ok hw) vX12_254 rfl (x_recv (by with_reducible repeat first | assumption | exact mH_0 ok | exact mH_1 | exact hset_s | refine mH_o (by first | assumption | exact nA ok (by omega) (by omega) (by omega)) (by first | assumption | exact nA ok (by omega) (by omega) (by omega)) ?_ | refine hget_n (by first | assumption | exact Ne.symm (by assumption) | exact nA ok (by omega) (by omega) (by omega)) ?_) rfl) rfl ⟨ble rfl, ble rfl⟩ (ble rfl) dX12_number_14 rfl ?_
  refine x_istore_n (L' := [(3, _), (2, _), (0, _), (1, _)]) dX12_number_17 rfl (ble rfl) rfl ?_
  refine x_iload_n 3 dX12_number_18 rfl rfl ?_
  refine x_if_eq 60 dX12_number_19 (by decide) (fun c19 => ?_) (fun c19 => ?_)
  · refine x_iload_n 0 dX12_number_60 rfl rfl ?_
    refine x_iret rfl dX12_number_61 ?_
    exact ⟨rfl, rfl⟩
  · first | refine x_aload_n 2 dX12_number_22 rfl rfl ?_ | refine x_aload_nN 2 dX12_number_22 rfl rfl ?_
    refine x_get fX12_248 rfl dX12_number_23 (by with_reducible repeat first | assumption | exact mH_0 ok | exact mH_1 | exact hset_s | refine mH_o (by first | assumption | exact nA ok (by omega) (by omega) (by omega)) (by first | assumption | exact nA ok (by omega) (by omega) (by omega)) ?_ | refine hget_n (by first | assumption | exact Ne.symm (by assumption) | exact nA ok (by omega) (by omega) (by omega)) ?_) (by rfl) ?_
    refine x_iconst (v := -1) dX12_number_26 rfl ?_
    refine x_icmp_ne 60 dX12_number_27 (by decide) (fun _ => ?_) (fun z => by first | exact absurd (hw) z | exact absurd z (hw))
    refine x_iload_n 0 dX12_number_60 rfl rfl ?_
    refine x_iret rfl dX12_number_61 ?_
    exact ⟨rfl, rfl⟩
