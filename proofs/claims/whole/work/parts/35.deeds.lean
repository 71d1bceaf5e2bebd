def itsV (N : Nat → Int32) (i j : Nat) : Int32 := if lackN N i j = 12 then N (60 + 8 * i) else if lackN N i j = 5 then nI i else if lackN N i j = 6 then mx (kSm (kOf (N (60 + 8 * i))) - N (62 + 8 * i)) 0 else mx (tinK (N (64 + 8 * i)) (N (189 + 5 * j)) - N (63 + 8 * i)) 0
theorem kNum_e : ∀ k, k < 3 → kNum k = nI k := by decide +kernel
theorem its_e {N : Nat → Int32} {i j : Nat} (P : PotI N i) (O : OrdI N j) (hl : ¬ lackN N i j = 0) : itsV N i j = detN N i j := by
  obtain ⟨hK, ⟨g, hg, hg1, hg9⟩, ⟨b, hb, hb2⟩, ⟨t, ht, ht9⟩, -⟩ := id P
  obtain ⟨hK2, ⟨t2, ht2, ht21, ht29⟩, -⟩ := id O
  obtain ⟨c, hc, hc9⟩ := tin_e (m := N (64 + 8 * i)) (a := t2) ht29
  have hq2 := (mist_e c (by omega) t (by omega)).2
  rw [← hc, ← ht2, ← ht] at hq2
  have h12 : N (60 + 8 * i) = kNum (kOf (N (60 + 8 * i))) := by rw [kNum_e _ hK.2]; exact hK.1
  have h13 : lackN N i j = 13 → N (63 + 8 * i) < tinK (N (64 + 8 * i)) (N (189 + 5 * j)) := by
    unfold lackN lackK
    (repeat' split) <;> intro e <;> first | assumption | (exact absurd e (by decide))
  have hc := lackK_c (kOf (N (60 + 8 * i))) (kOf (N (188 + 5 * j))) (N (61 + 8 * i)) (N (62 + 8 * i)) (N (63 + 8 * i)) (N (64 + 8 * i)) (N (189 + 5 * j))
  unfold itsV detN
  rcases hc with e | e | e | e | e <;> rw [show lackN N i j = _ from e]
  · exact absurd e hl
  · exact h12
  · rfl
  · rfl
  · exact hq2 (h13 e)
set_option maxRecDepth 100000 in
set_option maxHeartbeats 4000000 in
theorem ct_sell_o {l : Launch} {G : Gl} {h : Hp} {sv rem typ err lin wha its siz att wro tol : Int32} {N : Nat → Int32} (ok : Ok G) {np : Nat} (hn16 : np ≤ 16) (hnp : N 3 = nI np) (x y : Int32) (hx : ¬ (0 ≤ x ∧ x < N 3)) : Ct l G mX12_sells 6 (0) (0) [.ref (Ad G 20), .int x, .int y] (mH G h (eMd G sv rem typ err lin 0 wha 0 its siz att wro tol) N) (fun w h' => ∃ r why' wha' beh' its' N', w = some (.int r) ∧ h' = mH G h (eMd G sv rem typ err lin why' wha' beh' its' siz att wro tol) N' ∧ DeedR (pSell N x y) r why' wha' beh' its' N') := by
  refine Ct.of (L := [(0, _), (1, _), (2, _)]) (by decide) (ble rfl) rfl ?_
  first | refine x_aload_n 0 dX12_sells_0 rfl rfl ?_ | refine x_aload_nN 0 dX12_sells_0 rfl rfl ?_
  refine x_iload_n 1 dX12_sells_1 rfl rfl ?_
  refine x_cV1 (As := [.int _]) (ct_isPot_out ok hnp hn16 hx) vX12_129 rfl (x_recv (by with_reducible repeat first | assumption | exact mH_0 ok | exact mH_1 | exact hset_s | refine mH_o (by first | assumption | exact nA ok (by omega) (by omega) (by omega)) (by first | assumption | exact nA ok (by omega) (by omega) (by omega)) ?_ | refine hget_n (by first | assumption | exact Ne.symm (by assumption) | exact nA ok (by omega) (by omega) (by omega)) ?_) rfl) rfl ⟨ble rfl, ble rfl⟩ (ble rfl) dX12_sells_2 rfl ?_
  refine x_if_eq 16 dX12_sells_5 (by decide) (fun _ => ?_) (fun z => by first | exact absurd (rfl) z | exact absurd z (rfl))
  refine x_iconst (v := -1) dX12_sells_16 rfl ?_
  refine x_iret rfl dX12_sells_17 ?_
  refine ⟨_, _, _, _, _, _, rfl, rfl, ?_⟩
  unfold pSell
  rw [if_pos (fun z => hx z.1)]
  exact ⟨rfl, rfl, rfl⟩
set_option maxRecDepth 100000 in
set_option maxHeartbeats 4000000 in
theorem ct_sell_io {l : Launch} {G : Gl} {h : Hp} {sv rem typ err lin wha its siz att wro tol : Int32} {N : Nat → Int32} (ok : Ok G) {np no : Nat} (hn16 : np ≤ 16) (hnp : N 3 = nI np) (hno8 : no ≤ 8) (hno : N 4 = nI no) {i : Nat} (hi : i < np) (y : Int32) (hy : ¬ (0 ≤ y ∧ y < N 4)) : Ct l G mX12_sells 6 (0) (0) [.ref (Ad G 20), .int (nI i), .int y] (mH G h (eMd G sv rem typ err lin 0 wha 0 its siz att wro tol) N) (fun w h' => ∃ r why' wha' beh' its' N', w = some (.int r) ∧ h' = mH G h (eMd G sv rem typ err lin why' wha' beh' its' siz att wro tol) N' ∧ DeedR (pSell N (nI i) y) r why' wha' beh' its' N') := by
  refine Ct.of (L := [(0, _), (1, _), (2, _)]) (by decide) (ble rfl) rfl ?_
  first | refine x_aload_n 0 dX12_sells_0 rfl rfl ?_ | refine x_aload_nN 0 dX12_sells_0 rfl rfl ?_
  refine x_iload_n 1 dX12_sells_1 rfl rfl ?_
  refine x_cV1 (As := [.int _]) (ct_isPot_in ok hnp hn16 hi) vX12_129 rfl (x_recv (by with_reducible repeat first | assumption | exact mH_0 ok | exact mH_1 | exact hset_s | refine mH_o (by first | assumption | exact nA ok (by omega) (by omega) (by omega)) (by first | assumption | exact nA ok (by omega) (by omega) (by omega)) ?_ | refine hget_n (by first | assumption | exact Ne.symm (by assumption) | exact nA ok (by omega) (by omega) (by omega)) ?_) rfl) rfl ⟨ble rfl, ble rfl⟩ (ble rfl) dX12_sells_2 rfl ?_
  refine x_if_eq 16 dX12_sells_5 (by decide) (fun z => by first | exact absurd z (show ¬ (1 : Int32) = 0 by decide) | exact absurd (show ¬ (1 : Int32) = 0 by decide) z) (fun _ => ?_)
  first | refine x_aload_n 0 dX12_sells_8 rfl rfl ?_ | refine x_aload_nN 0 dX12_sells_8 rfl rfl ?_
  refine x_iload_n 2 dX12_sells_9 rfl rfl ?_
  refine x_cV1 (As := [.int _]) (ct_isOrder_out ok hno (by omega) hy) vX12_171 rfl (x_recv (by with_reducible repeat first | assumption | exact mH_0 ok | exact mH_1 | exact hset_s | refine mH_o (by first | assumption | exact nA ok (by omega) (by omega) (by omega)) (by first | assumption | exact nA ok (by omega) (by omega) (by omega)) ?_ | refine hget_n (by first | assumption | exact Ne.symm (by assumption) | exact nA ok (by omega) (by omega) (by omega)) ?_) rfl) rfl ⟨ble rfl, ble rfl⟩ (ble rfl) dX12_sells_10 rfl ?_
  refine x_if_ne 18 dX12_sells_13 (by decide) (fun z => by first | exact absurd z (fun z => z rfl) | exact absurd (fun z => z rfl) z) (fun _ => ?_)
  refine x_iconst (v := -1) dX12_sells_16 rfl ?_
  refine x_iret rfl dX12_sells_17 ?_
  refine ⟨_, _, _, _, _, _, rfl, rfl, ?_⟩
  unfold pSell
  rw [if_pos (fun z => hy z.2)]
  exact ⟨rfl, rfl, rfl⟩
set_option maxRecDepth 100000 in
set_option maxHeartbeats 4000000 in
theorem ct_sell_ii {l : Launch} {G : Gl} {h : Hp} {sv rem typ err lin wha its siz att wro tol : Int32} {N : Nat → Int32} (ok : Ok G) {np no : Nat} (hn16 : np ≤ 16) (hnp : N 3 = nI np) (hno8 : no ≤ 8) (hno : N 4 = nI no) {i j : Nat} (hi : i < np) (hj : j < no) (P : PotI N i) (O : OrdI N j) : Ct l G mX12_sells 6 (0) (0) [.ref (Ad G 20), .int (nI i), .int (nI j)] (mH G h (eMd G sv rem typ err lin 0 wha 0 its siz att wro tol) N) (fun w h' => ∃ r why' wha' beh' its' N', w = some (.int r) ∧ h' = mH G h (eMd G sv rem typ err lin why' wha' beh' its' siz att wro tol) N' ∧ DeedR (pSell N (nI i) (nI j)) r why' wha' beh' its' N') := by
  obtain ⟨hK, ⟨g, hg, hg1, hg9⟩, ⟨b, hb, hb2⟩, ⟨t, ht, ht9⟩, -⟩ := id P
  have hcl := kOf_nI (j := i) (by omega)
  have hin : 0 ≤ nI i ∧ nI i < N 3 := ⟨nI_pos' (by omega), by rw [hnp]; exact nI_lt hi (by omega)⟩
  have hi16 : i < 16 := by omega
  have hcj := kOf_nI (j := j) (by omega)
  have hjn : 0 ≤ nI j ∧ nI j < N 4 := ⟨nI_pos' (by omega), by rw [hno]; exact nI_lt hj (by omega)⟩
  have hj8 : j < 8 := by omega
  have hits := fun z => its_e P O z
  refine Ct.of (L := [(0, _), (1, _), (2, _)]) (by decide) (ble rfl) rfl ?_
  first | refine x_aload_n 0 dX12_sells_0 rfl rfl ?_ | refine x_aload_nN 0 dX12_sells_0 rfl rfl ?_
  refine x_iload_n 1 dX12_sells_1 rfl rfl ?_
  refine x_cV1 (As := [.int _]) (ct_isPot_in ok hnp hn16 hi) vX12_129 rfl (x_recv (by with_reducible repeat first | assumption | exact mH_0 ok | exact mH_1 | exact hset_s | refine mH_o (by first | assumption | exact nA ok (by omega) (by omega) (by omega)) (by first | assumption | exact nA ok (by omega) (by omega) (by omega)) ?_ | refine hget_n (by first | assumption | exact Ne.symm (by assumption) | exact nA ok (by omega) (by omega) (by omega)) ?_) rfl) rfl ⟨ble rfl, ble rfl⟩ (ble rfl) dX12_sells_2 rfl ?_
  refine x_if_eq 16 dX12_sells_5 (by decide) (fun z => by first | exact absurd z (show ¬ (1 : Int32) = 0 by decide) | exact absurd (show ¬ (1 : Int32) = 0 by decide) z) (fun _ => ?_)
  first | refine x_aload_n 0 dX12_sells_8 rfl rfl ?_ | refine x_aload_nN 0 dX12_sells_8 rfl rfl ?_
  refine x_iload_n 2 dX12_sells_9 rfl rfl ?_
  refine x_cV1 (As := [.int _]) (ct_isOrder_in ok hno (by omega) hj) vX12_171 rfl (x_recv (by with_reducible repeat first | assumption | exact mH_0 ok | exact mH_1 | exact hset_s | refine mH_o (by first | assumption | exact nA ok (by omega) (by omega) (by omega)) (by first | assumption | exact nA ok (by omega) (by omega) (by omega)) ?_ | refine hget_n (by first | assumption | exact Ne.symm (by assumption) | exact nA ok (by omega) (by omega) (by omega)) ?_) rfl) rfl ⟨ble rfl, ble rfl⟩ (ble rfl) dX12_sells_10 rfl ?_
  refine x_if_ne 18 dX12_sells_13 (by decide) (fun _ => ?_) (fun z => by first | exact absurd (show ¬ (1 : Int32) = 0 by decide) z | exact absurd z (show ¬ (1 : Int32) = 0 by decide))
  first | refine x_aload_n 0 dX12_sells_18 rfl rfl ?_ | refine x_aload_nN 0 dX12_sells_18 rfl rfl ?_
  refine x_iload_n 1 dX12_sells_19 rfl rfl ?_
  refine x_iload_n 2 dX12_sells_20 rfl rfl ?_
  refine x_cV1 (As := [.int _, .int _]) (ct_X12_unfit ok (by omega) (by omega) (by assumption) (by assumption)) vX12_174 rfl (x_recv (by with_reducible repeat first | assumption | exact mH_0 ok | exact mH_1 | exact hset_s | refine mH_o (by first | assumption | exact nA ok (by omega) (by omega) (by omega)) (by first | assumption | exact nA ok (by omega) (by omega) (by omega)) ?_ | refine hget_n (by first | assumption | exact Ne.symm (by assumption) | exact nA ok (by omega) (by omega) (by omega)) ?_) rfl) rfl ⟨ble rfl, ble rfl⟩ (ble rfl) dX12_sells_21 rfl ?_
  refine x_istore_n (L' := [(3, _), (0, _), (1, _), (2, _)]) dX12_sells_24 rfl (ble rfl) rfl ?_
  first | refine x_aload_n 1 dX12_sells_25 rfl rfl ?_ | refine x_aload_nN 1 dX12_sells_25 rfl rfl ?_
  first | refine x_aload_n 1 dX12_sells_26 rfl rfl ?_ | refine x_aload_nN 1 dX12_sells_26 rfl rfl ?_
  refine x_iload_n 3 dX12_sells_27 rfl rfl ?_
  refine x_iconst (v := 3) dX12_sells_28 rfl ?_
  refine x_cV1 (As := [.int _, .int _]) (ct_X12_ofOrder_3 ok (by omega)) vX12_162 rfl (x_recv (by with_reducible repeat first | assumption | exact mH_0 ok | exact mH_1 | exact hset_s | refine mH_o (by first | assumption | exact nA ok (by omega) (by omega) (by omega)) (by first | assumption | exact nA ok (by omega) (by omega) (by omega)) ?_ | refine hget_n (by first | assumption | exact Ne.symm (by assumption) | exact nA ok (by omega) (by omega) (by omega)) ?_) rfl) rfl ⟨ble rfl, ble rfl⟩ (ble rfl) dX12_sells_29 rfl ?_
  refine x_bipush (v := -4) dX12_sells_32 rfl ?_
  have J42 : ∀ v : Int32, v = (soldK (N (191 + 5 * j))) → XX l G mX12_sells (Rm 6 (0) (0)) (KQ G (Rm 6 (0) (0)) (fun w h' => ∃ r why' wha' beh' its' N', w = some (.int r) ∧ h' = mH G h (eMd G sv rem typ err lin why' wha' beh' its' siz att wro tol) N' ∧ DeedR (pSell N (nI i) (nI j)) r why' wha' beh' its' N')) (0) (0) 42 [(3, .int (lackN N i j)), (0, .ref (Ad G 20)), (1, .int (nI i)), (2, .int (nI j))] [.int v, .ref (Ad G 20)] (mH G h (eMd G sv rem typ err lin 0 wha 0 its siz att wro tol) N) := by
    intro v hv
    subst hv
    refine x_bipush (v := 10) dX12_sells_42 rfl ?_
    first | refine x_aload_n 1 dX12_sells_44 rfl rfl ?_ | refine x_aload_nN 1 dX12_sells_44 rfl rfl ?_
    refine x_iload_n 3 dX12_sells_45 rfl rfl ?_
    refine x_iconst (v := 3) dX12_sells_46 rfl ?_
    refine x_cV1 (As := [.int _, .int _]) (ct_X12_ofOrder_3 ok (by omega)) vX12_162 rfl (x_recv (by with_reducible repeat first | assumption | exact mH_0 ok | exact mH_1 | exact hset_s | refine mH_o (by first | assumption | exact nA ok (by omega) (by omega) (by omega)) (by first | assumption | exact nA ok (by omega) (by omega) (by omega)) ?_ | refine hget_n (by first | assumption | exact Ne.symm (by assumption) | exact nA ok (by omega) (by omega) (by omega)) ?_) rfl) rfl ⟨ble rfl, ble rfl⟩ (ble rfl) dX12_sells_47 rfl ?_
    refine x_cV0 (As := [.int _, .int _, .int _]) (ct_X12_hinders ok _ _ _) vX12_82 rfl (x_recv (by with_reducible repeat first | assumption | exact mH_0 ok | exact mH_1 | exact hset_s | refine mH_o (by first | assumption | exact nA ok (by omega) (by omega) (by omega)) (by first | assumption | exact nA ok (by omega) (by omega) (by omega)) ?_ | refine hget_n (by first | assumption | exact Ne.symm (by assumption) | exact nA ok (by omega) (by omega) (by omega)) ?_) rfl) rfl ⟨ble rfl, ble rfl⟩ (ble rfl) dX12_sells_50 rfl ?_
    first | refine x_aload_n 1 dX12_sells_53 rfl rfl ?_ | refine x_aload_nN 1 dX12_sells_53 rfl rfl ?_
    first | refine x_aload_n 1 dX12_sells_54 rfl rfl ?_ | refine x_aload_nN 1 dX12_sells_54 rfl rfl ?_
    refine x_iload_n 2 dX12_sells_55 rfl rfl ?_
    refine x_cV1 (As := [.int _]) (ct_X12_isSold ok (by omega)) vX12_132 rfl (x_recv (by with_reducible repeat first | assumption | exact mH_0 ok | exact mH_1 | exact hset_s | refine mH_o (by first | assumption | exact nA ok (by omega) (by omega) (by omega)) (by first | assumption | exact nA ok (by omega) (by omega) (by omega)) ?_ | refine hget_n (by first | assumption | exact Ne.symm (by assumption) | exact nA ok (by omega) (by omega) (by omega)) ?_) rfl) rfl ⟨ble rfl, ble rfl⟩ (ble rfl) dX12_sells_56 rfl ?_
    refine x_iconst (v := 4) dX12_sells_59 rfl ?_
    first | refine x_aload_n 1 dX12_sells_60 rfl rfl ?_ | refine x_aload_nN 1 dX12_sells_60 rfl rfl ?_
    refine x_iload_n 2 dX12_sells_61 rfl rfl ?_
    refine x_bipush (v := 6) dX12_sells_62 rfl ?_
    refine x_cV1 (As := [.int _, .int _]) (ct_X12_of_6 ok (by omega)) vX12_101 rfl (x_recv (by with_reducible repeat first | assumption | exact mH_0 ok | exact mH_1 | exact hset_s | refine mH_o (by first | assumption | exact nA ok (by omega) (by omega) (by omega)) (by first | assumption | exact nA ok (by omega) (by omega) (by omega)) ?_ | refine hget_n (by first | assumption | exact Ne.symm (by assumption) | exact nA ok (by omega) (by omega) (by omega)) ?_) rfl) rfl ⟨ble rfl, ble rfl⟩ (ble rfl) dX12_sells_64 rfl ?_
    refine x_cV0 (As := [.int _, .int _, .int _]) (ct_X12_hinders ok _ _ _) vX12_82 rfl (x_recv (by with_reducible repeat first | assumption | exact mH_0 ok | exact mH_1 | exact hset_s | refine mH_o (by first | assumption | exact nA ok (by omega) (by omega) (by omega)) (by first | assumption | exact nA ok (by omega) (by omega) (by omega)) ?_ | refine hget_n (by first | assumption | exact Ne.symm (by assumption) | exact nA ok (by omega) (by omega) (by omega)) ?_) rfl) rfl ⟨ble rfl, ble rfl⟩ (ble rfl) dX12_sells_67 rfl ?_
    first | refine x_aload_n 1 dX12_sells_70 rfl rfl ?_ | refine x_aload_nN 1 dX12_sells_70 rfl rfl ?_
    refine x_iload_n 0 dX12_sells_71 rfl rfl ?_
    have J80 : ∀ v : Int32, v = b2i (¬ (lackN N i j) = 0) → XX l G mX12_sells (Rm 6 (0) (0)) (KQ G (Rm 6 (0) (0)) (fun w h' => ∃ r why' wha' beh' its' N', w = some (.int r) ∧ h' = mH G h (eMd G sv rem typ err lin why' wha' beh' its' siz att wro tol) N' ∧ DeedR (pSell N (nI i) (nI j)) r why' wha' beh' its' N')) (0) (0) 80 [(3, .int (lackN N i j)), (0, .ref (Ad G 20)), (1, .int (nI i)), (2, .int (nI j))] [.int v, .ref (Ad G 20)] (mH G h (eMd G sv rem typ err lin (hW (soldK (N (66 + 8 * i))) (hW (soldK (N (191 + 5 * j))) 0 10) 4) (hD (soldK (N (66 + 8 * i))) (hW (soldK (N (191 + 5 * j))) 0 10) (hD (soldK (N (191 + 5 * j))) 0 wha (N (191 + 5 * j))) (N (66 + 8 * i))) 0 its siz att wro tol) N) := by
      intro v hv
      subst hv
      refine x_bipush (v := 11) dX12_sells_80 rfl ?_
      refine x_iload_n 2 dX12_sells_82 rfl rfl ?_
      refine x_cV0 (As := [.int _, .int _, .int _]) (ct_X12_hinders ok _ _ _) vX12_82 rfl (x_recv (by with_reducible repeat first | assumption | exact mH_0 ok | exact mH_1 | exact hset_s | refine mH_o (by first | assumption | exact nA ok (by omega) (by omega) (by omega)) (by first | assumption | exact nA ok (by omega) (by omega) (by omega)) ?_ | refine hget_n (by first | assumption | exact Ne.symm (by assumption) | exact nA ok (by omega) (by omega) (by omega)) ?_) rfl) rfl ⟨ble rfl, ble rfl⟩ (ble rfl) dX12_sells_83 rfl ?_
      first | refine x_aload_n 1 dX12_sells_86 rfl rfl ?_ | refine x_aload_nN 1 dX12_sells_86 rfl rfl ?_
      first | refine x_aload_n 1 dX12_sells_87 rfl rfl ?_ | refine x_aload_nN 1 dX12_sells_87 rfl rfl ?_
      refine x_get fX12_51 rfl dX12_sells_88 (by with_reducible repeat first | assumption | exact mH_0 ok | exact mH_1 | exact hset_s | refine mH_o (by first | assumption | exact nA ok (by omega) (by omega) (by omega)) (by first | assumption | exact nA ok (by omega) (by omega) (by omega)) ?_ | refine hget_n (by first | assumption | exact Ne.symm (by assumption) | exact nA ok (by omega) (by omega) (by omega)) ?_) (by rfl) ?_
      refine x_bipush (v := 11) dX12_sells_91 rfl ?_
      have J101 : ∀ vb : Int32, vb = (if (hW (b2i (¬ (lackN N i j) = 0)) (hW (soldK (N (66 + 8 * i))) (hW (soldK (N (191 + 5 * j))) 0 10) 4) 11) = 11 then (lackN N i j) else 0) → XX l G mX12_sells (Rm 6 (0) (0)) (KQ G (Rm 6 (0) (0)) (fun w h' => ∃ r why' wha' beh' its' N', w = some (.int r) ∧ h' = mH G h (eMd G sv rem typ err lin why' wha' beh' its' siz att wro tol) N' ∧ DeedR (pSell N (nI i) (nI j)) r why' wha' beh' its' N')) (0) (0) 101 [(3, .int (lackN N i j)), (0, .ref (Ad G 20)), (1, .int (nI i)), (2, .int (nI j))] [.int vb, .ref (Ad G 20)] (mH G h (eMd G sv rem typ err lin (hW (b2i (¬ (lackN N i j) = 0)) (hW (soldK (N (66 + 8 * i))) (hW (soldK (N (191 + 5 * j))) 0 10) 4) 11) (hD (b2i (¬ (lackN N i j) = 0)) (hW (soldK (N (66 + 8 * i))) (hW (soldK (N (191 + 5 * j))) 0 10) 4) (hD (soldK (N (66 + 8 * i))) (hW (soldK (N (191 + 5 * j))) 0 10) (hD (soldK (N (191 + 5 * j))) 0 wha (N (191 + 5 * j))) (N (66 + 8 * i))) (nI i)) 0 its siz att wro tol) N) := by
        intro vb hvb
        refine x_mput ok fX12_61 rfl rfl rfl rfl dX12_sells_101 (by exact ble rfl) ?_
        refine x_eqH (h' := (mH G h (eMd G sv rem typ err lin (hW (b2i (¬ (lackN N i j) = 0)) (hW (soldK (N (66 + 8 * i))) (hW (soldK (N (191 + 5 * j))) 0 10) 4) 11) (hD (b2i (¬ (lackN N i j) = 0)) (hW (soldK (N (66 + 8 * i))) (hW (soldK (N (191 + 5 * j))) 0 10) 4) (hD (soldK (N (66 + 8 * i))) (hW (soldK (N (191 + 5 * j))) 0 10) (hD (soldK (N (191 + 5 * j))) 0 wha (N (191 + 5 * j))) (N (66 + 8 * i))) (nI i)) vb its siz att wro tol) N)) rfl ?_
        first | refine x_aload_n 1 dX12_sells_104 rfl rfl ?_ | refine x_aload_nN 1 dX12_sells_104 rfl rfl ?_
        refine x_iload_n 0 dX12_sells_105 rfl rfl ?_
        refine x_bipush (v := 12) dX12_sells_106 rfl ?_
        have J149 : ∀ vi : Int32, vi = itsV N i j → XX l G mX12_sells (Rm 6 (0) (0)) (KQ G (Rm 6 (0) (0)) (fun w h' => ∃ r why' wha' beh' its' N', w = some (.int r) ∧ h' = mH G h (eMd G sv rem typ err lin why' wha' beh' its' siz att wro tol) N' ∧ DeedR (pSell N (nI i) (nI j)) r why' wha' beh' its' N')) (0) (0) 149 [(3, .int (lackN N i j)), (0, .ref (Ad G 20)), (1, .int (nI i)), (2, .int (nI j))] [.int vi, .ref (Ad G 20)] (mH G h (eMd G sv rem typ err lin (hW (b2i (¬ (lackN N i j) = 0)) (hW (soldK (N (66 + 8 * i))) (hW (soldK (N (191 + 5 * j))) 0 10) 4) 11) (hD (b2i (¬ (lackN N i j) = 0)) (hW (soldK (N (66 + 8 * i))) (hW (soldK (N (191 + 5 * j))) 0 10) 4) (hD (soldK (N (66 + 8 * i))) (hW (soldK (N (191 + 5 * j))) 0 10) (hD (soldK (N (191 + 5 * j))) 0 wha (N (191 + 5 * j))) (N (66 + 8 * i))) (nI i)) vb its siz att wro tol) N) := by
          intro vi hvi
          refine x_mput ok fX12_68 rfl rfl rfl rfl dX12_sells_149 (by exact ble rfl) ?_
          refine x_eqH (h' := (mH G h (eMd G sv rem typ err lin (hW (b2i (¬ (lackN N i j) = 0)) (hW (soldK (N (66 + 8 * i))) (hW (soldK (N (191 + 5 * j))) 0 10) 4) 11) (hD (b2i (¬ (lackN N i j) = 0)) (hW (soldK (N (66 + 8 * i))) (hW (soldK (N (191 + 5 * j))) 0 10) 4) (hD (soldK (N (66 + 8 * i))) (hW (soldK (N (191 + 5 * j))) 0 10) (hD (soldK (N (191 + 5 * j))) 0 wha (N (191 + 5 * j))) (N (66 + 8 * i))) (nI i)) vb vi siz att wro tol) N)) rfl ?_
          first | refine x_aload_n 1 dX12_sells_152 rfl rfl ?_ | refine x_aload_nN 1 dX12_sells_152 rfl rfl ?_
          refine x_iload_n 2 dX12_sells_153 rfl rfl ?_
          refine x_iload_n 3 dX12_sells_154 rfl rfl ?_
          refine x_cV1 (As := [.int _, .int _]) (ct_X12_payFor ok (by omega) (by omega)) vX12_177 rfl (x_recv (by with_reducible repeat first | assumption | exact mH_0 ok | exact mH_1 | exact hset_s | refine mH_o (by first | assumption | exact nA ok (by omega) (by omega) (by omega)) (by first | assumption | exact nA ok (by omega) (by omega) (by omega)) ?_ | refine hget_n (by first | assumption | exact Ne.symm (by assumption) | exact nA ok (by omega) (by omega) (by omega)) ?_) rfl) rfl ⟨ble rfl, ble rfl⟩ (ble rfl) dX12_sells_155 rfl ?_
          refine x_istore (L' := [(4, _), (3, _), (0, _), (1, _), (2, _)]) dX12_sells_158 (ble rfl) rfl ?_
          first | refine x_aload_n 2 dX12_sells_160 rfl rfl ?_ | refine x_aload_nN 2 dX12_sells_160 rfl rfl ?_
          refine x_iload_n 3 dX12_sells_161 rfl rfl ?_
          refine x_bipush (v := 6) dX12_sells_162 rfl ?_
          refine x_iload_n 4 dX12_sells_164 rfl rfl ?_
          refine x_cV0 (As := [.int _, .int _, .int _]) (ct_X12_becomes_6 ok (by omega) _) vX12_123 rfl (x_recv (by with_reducible repeat first | assumption | exact mH_0 ok | exact mH_1 | exact hset_s | refine mH_o (by first | assumption | exact nA ok (by omega) (by omega) (by omega)) (by first | assumption | exact nA ok (by omega) (by omega) (by omega)) ?_ | refine hget_n (by first | assumption | exact Ne.symm (by assumption) | exact nA ok (by omega) (by omega) (by omega)) ?_) rfl) rfl ⟨ble rfl, ble rfl⟩ (ble rfl) dX12_sells_165 rfl ?_
          first | refine x_aload_n 2 dX12_sells_168 rfl rfl ?_ | refine x_aload_nN 2 dX12_sells_168 rfl rfl ?_
          refine x_get fX12_9 rfl dX12_sells_169 (by with_reducible repeat first | assumption | exact mH_0 ok | exact mH_1 | exact hset_s | refine mH_o (by first | assumption | exact nA ok (by omega) (by omega) (by omega)) (by first | assumption | exact nA ok (by omega) (by omega) (by omega)) ?_ | refine hget_n (by first | assumption | exact Ne.symm (by assumption) | exact nA ok (by omega) (by omega) (by omega)) ?_) (by rfl) ?_
          refine x_sipush (v := 188) dX12_sells_172 rfl ?_
          refine x_iconst (v := 5) dX12_sells_175 rfl ?_
          refine x_iload_n 4 dX12_sells_176 rfl rfl ?_
          refine x_imul dX12_sells_177 ?_
          refine x_iadd dX12_sells_178 ?_
          refine x_iconst (v := 3) dX12_sells_179 rfl ?_
          refine x_iadd dX12_sells_180 ?_
          refine x_iload_n 3 dX12_sells_181 rfl rfl ?_
          refine x_mast (i := 191 + 5 * j) ok (by first | exact Eq.refl (nI _) | exact ix_p _ _ | exact ix_o _ _ | exact ix_s _ | exact ix_s1 _ _ | (rw [ix_s]; exact nI_add _ _) | exact nI_add _ 1 | exact nI_add _ 2 | exact nI_add _ 3 | exact nI_add _ 4 | (rw [ix_o0]; exact nI_add _ 3) | (rw [ix_o0]; exact nI_add _ 4) | (rw [ix_o0]; exact nI_add _ _) | (rw [ix_o0]; exact (nI_add _ 3).trans (congrArg nI (by omega))) | (rw [ix_o0]; exact (nI_add _ 4).trans (congrArg nI (by omega)))) dX12_sells_182 (by omega) ?_
          first | refine x_aload_n 2 dX12_sells_183 rfl rfl ?_ | refine x_aload_nN 2 dX12_sells_183 rfl rfl ?_
          refine x_get fX12_9 rfl dX12_sells_184 (by with_reducible repeat first | assumption | exact mH_0 ok | exact mH_1 | exact hset_s | refine mH_o (by first | assumption | exact nA ok (by omega) (by omega) (by omega)) (by first | assumption | exact nA ok (by omega) (by omega) (by omega)) ?_ | refine hget_n (by first | assumption | exact Ne.symm (by assumption) | exact nA ok (by omega) (by omega) (by omega)) ?_) (by rfl) ?_
          refine x_sipush (v := 188) dX12_sells_187 rfl ?_
          refine x_iconst (v := 5) dX12_sells_190 rfl ?_
          refine x_iload_n 4 dX12_sells_191 rfl rfl ?_
          refine x_imul dX12_sells_192 ?_
          refine x_iadd dX12_sells_193 ?_
          refine x_iconst (v := 4) dX12_sells_194 rfl ?_
          refine x_iadd dX12_sells_195 ?_
          refine x_iload 0 dX12_sells_196 rfl ?_
          refine x_mast (i := 192 + 5 * j) ok (by first | exact Eq.refl (nI _) | exact ix_p _ _ | exact ix_o _ _ | exact ix_s _ | exact ix_s1 _ _ | (rw [ix_s]; exact nI_add _ _) | exact nI_add _ 1 | exact nI_add _ 2 | exact nI_add _ 3 | exact nI_add _ 4 | (rw [ix_o0]; exact nI_add _ 3) | (rw [ix_o0]; exact nI_add _ 4) | (rw [ix_o0]; exact nI_add _ _) | (rw [ix_o0]; exact (nI_add _ 3).trans (congrArg nI (by omega))) | (rw [ix_o0]; exact (nI_add _ 4).trans (congrArg nI (by omega)))) dX12_sells_198 (by omega) ?_
          first | refine x_aload_n 2 dX12_sells_199 rfl rfl ?_ | refine x_aload_nN 2 dX12_sells_199 rfl rfl ?_
          refine x_get fX12_9 rfl dX12_sells_200 (by with_reducible repeat first | assumption | exact mH_0 ok | exact mH_1 | exact hset_s | refine mH_o (by first | assumption | exact nA ok (by omega) (by omega) (by omega)) (by first | assumption | exact nA ok (by omega) (by omega) (by omega)) ?_ | refine hget_n (by first | assumption | exact Ne.symm (by assumption) | exact nA ok (by omega) (by omega) (by omega)) ?_) (by rfl) ?_
          refine x_iconst (v := 0) dX12_sells_203 rfl ?_
          refine x_dup2 dX12_sells_204 rfl rfl ?_
          refine x_mald (i := 0) (by first | exact Eq.refl (nI _) | exact ix_p _ _ | exact ix_o _ _ | exact ix_s _ | exact ix_s1 _ _ | (rw [ix_s]; exact nI_add _ _) | exact nI_add _ 1 | exact nI_add _ 2 | exact nI_add _ 3 | exact nI_add _ 4 | (rw [ix_o0]; exact nI_add _ 3) | (rw [ix_o0]; exact nI_add _ 4) | (rw [ix_o0]; exact nI_add _ _) | (rw [ix_o0]; exact (nI_add _ 3).trans (congrArg nI (by omega))) | (rw [ix_o0]; exact (nI_add _ 4).trans (congrArg nI (by omega)))) dX12_sells_205 (by omega) rfl ?_
          refine x_iload 0 dX12_sells_206 rfl ?_
          refine x_iadd dX12_sells_208 ?_
          refine x_mast (i := 0) ok (by first | exact Eq.refl (nI _) | exact ix_p _ _ | exact ix_o _ _ | exact ix_s _ | exact ix_s1 _ _ | (rw [ix_s]; exact nI_add _ _) | exact nI_add _ 1 | exact nI_add _ 2 | exact nI_add _ 3 | exact nI_add _ 4 | (rw [ix_o0]; exact nI_add _ 3) | (rw [ix_o0]; exact nI_add _ 4) | (rw [ix_o0]; exact nI_add _ _) | (rw [ix_o0]; exact (nI_add _ 3).trans (congrArg nI (by omega))) | (rw [ix_o0]; exact (nI_add _ 4).trans (congrArg nI (by omega)))) dX12_sells_209 (by omega) ?_
          first | refine x_aload_n 2 dX12_sells_210 rfl rfl ?_ | refine x_aload_nN 2 dX12_sells_210 rfl rfl ?_
          refine x_get fX12_9 rfl dX12_sells_211 (by with_reducible repeat first | assumption | exact mH_0 ok | exact mH_1 | exact hset_s | refine mH_o (by first | assumption | exact nA ok (by omega) (by omega) (by omega)) (by first | assumption | exact nA ok (by omega) (by omega) (by omega)) ?_ | refine hget_n (by first | assumption | exact Ne.symm (by assumption) | exact nA ok (by omega) (by omega) (by omega)) ?_) (by rfl) ?_
          refine x_bipush (v := 9) dX12_sells_214 rfl ?_
          refine x_dup2 dX12_sells_216 rfl rfl ?_
          refine x_mald (i := 9) (by first | exact Eq.refl (nI _) | exact ix_p _ _ | exact ix_o _ _ | exact ix_s _ | exact ix_s1 _ _ | (rw [ix_s]; exact nI_add _ _) | exact nI_add _ 1 | exact nI_add _ 2 | exact nI_add _ 3 | exact nI_add _ 4 | (rw [ix_o0]; exact nI_add _ 3) | (rw [ix_o0]; exact nI_add _ 4) | (rw [ix_o0]; exact nI_add _ _) | (rw [ix_o0]; exact (nI_add _ 3).trans (congrArg nI (by omega))) | (rw [ix_o0]; exact (nI_add _ 4).trans (congrArg nI (by omega)))) dX12_sells_217 (by omega) rfl ?_
          refine x_iload 0 dX12_sells_218 rfl ?_
          refine x_iadd dX12_sells_220 ?_
          refine x_mast (i := 9) ok (by first | exact Eq.refl (nI _) | exact ix_p _ _ | exact ix_o _ _ | exact ix_s _ | exact ix_s1 _ _ | (rw [ix_s]; exact nI_add _ _) | exact nI_add _ 1 | exact nI_add _ 2 | exact nI_add _ 3 | exact nI_add _ 4 | (rw [ix_o0]; exact nI_add _ 3) | (rw [ix_o0]; exact nI_add _ 4) | (rw [ix_o0]; exact nI_add _ _) | (rw [ix_o0]; exact (nI_add _ 3).trans (congrArg nI (by omega))) | (rw [ix_o0]; exact (nI_add _ 4).trans (congrArg nI (by omega)))) dX12_sells_221 (by omega) ?_
          first | refine x_aload_n 2 dX12_sells_222 rfl rfl ?_ | refine x_aload_nN 2 dX12_sells_222 rfl rfl ?_
          refine x_get fX12_9 rfl dX12_sells_223 (by with_reducible repeat first | assumption | exact mH_0 ok | exact mH_1 | exact hset_s | refine mH_o (by first | assumption | exact nA ok (by omega) (by omega) (by omega)) (by first | assumption | exact nA ok (by omega) (by omega) (by omega)) ?_ | refine hget_n (by first | assumption | exact Ne.symm (by assumption) | exact nA ok (by omega) (by omega) (by omega)) ?_) (by rfl) ?_
          refine x_iconst (v := 0) dX12_sells_226 rfl ?_
          refine x_mald (i := 0) (by first | exact Eq.refl (nI _) | exact ix_p _ _ | exact ix_o _ _ | exact ix_s _ | exact ix_s1 _ _ | (rw [ix_s]; exact nI_add _ _) | exact nI_add _ 1 | exact nI_add _ 2 | exact nI_add _ 3 | exact nI_add _ 4 | (rw [ix_o0]; exact nI_add _ 3) | (rw [ix_o0]; exact nI_add _ 4) | (rw [ix_o0]; exact nI_add _ _) | (rw [ix_o0]; exact (nI_add _ 3).trans (congrArg nI (by omega))) | (rw [ix_o0]; exact (nI_add _ 4).trans (congrArg nI (by omega)))) dX12_sells_227 (by omega) rfl ?_
          refine x_iret rfl dX12_sells_228 ?_
          refine ⟨_, _, _, _, _, _, rfl, rfl, ?_⟩
          rw [← hvi] at hits
          clear hvi
          unfold pSell
          rw [if_neg (fun z => z ⟨hin, hjn⟩), hcl, hcj]
          simp (disch := omega) only [upd_ne, upd_eq]
          by_cases z0 : (soldK (N (191 + 5 * j))) = 0 <;> by_cases z1 : (soldK (N (66 + 8 * i))) = 0 <;> by_cases z2 : (lackN N i j) = 0 <;> simp [DeedR, hW, hD, b2i, hvb, z0, z1, z2] <;> exact hits z2
        refine x_icmp_ne 120 dX12_sells_108 (by decide) (fun c108 => ?_) (fun c108 => ?_)
        · refine x_iload_n 0 dX12_sells_120 rfl rfl ?_
          refine x_iconst (v := 5) dX12_sells_121 rfl ?_
          refine x_icmp_ne 129 dX12_sells_122 (by decide) (fun c122 => ?_) (fun c122 => ?_)
          · refine x_iload_n 0 dX12_sells_129 rfl rfl ?_
            refine x_bipush (v := 6) dX12_sells_130 rfl ?_
            refine x_icmp_ne 143 dX12_sells_132 (by decide) (fun c132 => ?_) (fun c132 => ?_)
            · first | refine x_aload_n 1 dX12_sells_143 rfl rfl ?_ | refine x_aload_nN 1 dX12_sells_143 rfl rfl ?_
              refine x_iload_n 2 dX12_sells_144 rfl rfl ?_
              refine x_iload_n 3 dX12_sells_145 rfl rfl ?_
              refine x_cV1 (As := [.int _, .int _]) (ct_X12_missingTin ok (by omega) (by omega) (by assumption) (by assumption)) vX12_168 rfl (x_recv (by with_reducible repeat first | assumption | exact mH_0 ok | exact mH_1 | exact hset_s | refine mH_o (by first | assumption | exact nA ok (by omega) (by omega) (by omega)) (by first | assumption | exact nA ok (by omega) (by omega) (by omega)) ?_ | refine hget_n (by first | assumption | exact Ne.symm (by assumption) | exact nA ok (by omega) (by omega) (by omega)) ?_) rfl) rfl ⟨ble rfl, ble rfl⟩ (ble rfl) dX12_sells_146 rfl ?_
              refine x_locs (L' := [(3, _), (0, _), (1, _), (2, _)]) [0, 1, 2, 3] rfl ?_
              refine J149 _ ?_
              unfold itsV
              first | exact (if_pos (by assumption)).symm | (rw [if_neg (by assumption), if_pos (by assumption)]; done) | (rw [if_neg (by assumption), if_neg (by assumption), if_pos (by assumption)]; done) | (rw [if_neg (by assumption), if_neg (by assumption), if_neg (by assumption)]; done)
            · first | refine x_aload_n 1 dX12_sells_135 rfl rfl ?_ | refine x_aload_nN 1 dX12_sells_135 rfl rfl ?_
              refine x_iload_n 2 dX12_sells_136 rfl rfl ?_
              refine x_cV1 (As := [.int _]) (ct_X12_missingBlows ok (by omega) (by assumption)) vX12_147 rfl (x_recv (by with_reducible repeat first | assumption | exact mH_0 ok | exact mH_1 | exact hset_s | refine mH_o (by first | assumption | exact nA ok (by omega) (by omega) (by omega)) (by first | assumption | exact nA ok (by omega) (by omega) (by omega)) ?_ | refine hget_n (by first | assumption | exact Ne.symm (by assumption) | exact nA ok (by omega) (by omega) (by omega)) ?_) rfl) rfl ⟨ble rfl, ble rfl⟩ (ble rfl) dX12_sells_137 rfl ?_
              refine x_goto 149 dX12_sells_140 (by decide) ?_
              refine x_locs (L' := [(3, _), (0, _), (1, _), (2, _)]) [0, 1, 2, 3] rfl ?_
              refine J149 _ ?_
              unfold itsV
              first | exact (if_pos (by assumption)).symm | (rw [if_neg (by assumption), if_pos (by assumption)]; done) | (rw [if_neg (by assumption), if_neg (by assumption), if_pos (by assumption)]; done) | (rw [if_neg (by assumption), if_neg (by assumption), if_neg (by assumption)]; done)
          · refine x_iload_n 2 dX12_sells_125 rfl rfl ?_
            refine x_goto 149 dX12_sells_126 (by decide) ?_
            refine x_locs (L' := [(3, _), (0, _), (1, _), (2, _)]) [0, 1, 2, 3] rfl ?_
            refine J149 _ ?_
            unfold itsV
            first | exact (if_pos (by assumption)).symm | (rw [if_neg (by assumption), if_pos (by assumption)]; done) | (rw [if_neg (by assumption), if_neg (by assumption), if_pos (by assumption)]; done) | (rw [if_neg (by assumption), if_neg (by assumption), if_neg (by assumption)]; done)
        · first | refine x_aload_n 1 dX12_sells_111 rfl rfl ?_ | refine x_aload_nN 1 dX12_sells_111 rfl rfl ?_
          refine x_iload_n 2 dX12_sells_112 rfl rfl ?_
          refine x_iconst (v := 0) dX12_sells_113 rfl ?_
          refine x_cV1 (As := [.int _, .int _]) (ct_X12_of_0 ok (by omega)) vX12_101 rfl (x_recv (by with_reducible repeat first | assumption | exact mH_0 ok | exact mH_1 | exact hset_s | refine mH_o (by first | assumption | exact nA ok (by omega) (by omega) (by omega)) (by first | assumption | exact nA ok (by omega) (by omega) (by omega)) ?_ | refine hget_n (by first | assumption | exact Ne.symm (by assumption) | exact nA ok (by omega) (by omega) (by omega)) ?_) rfl) rfl ⟨ble rfl, ble rfl⟩ (ble rfl) dX12_sells_114 rfl ?_
          refine x_goto 149 dX12_sells_117 (by decide) ?_
          refine x_locs (L' := [(3, _), (0, _), (1, _), (2, _)]) [0, 1, 2, 3] rfl ?_
          refine J149 _ ?_
          unfold itsV
          first | exact (if_pos (by assumption)).symm | (rw [if_neg (by assumption), if_pos (by assumption)]; done) | (rw [if_neg (by assumption), if_neg (by assumption), if_pos (by assumption)]; done) | (rw [if_neg (by assumption), if_neg (by assumption), if_neg (by assumption)]; done)
      refine x_icmp_ne 100 dX12_sells_93 (by decide) (fun c93 => ?_) (fun c93 => ?_)
      · refine x_iconst (v := 0) dX12_sells_100 rfl ?_
        refine x_locs (L' := [(3, _), (0, _), (1, _), (2, _)]) [0, 1, 2, 3] rfl ?_
        refine J101 _ ?_
        first | exact (if_pos (by assumption)).symm | exact (if_neg (by assumption)).symm
      · refine x_iload_n 0 dX12_sells_96 rfl rfl ?_
        refine x_goto 101 dX12_sells_97 (by decide) ?_
        refine x_locs (L' := [(3, _), (0, _), (1, _), (2, _)]) [0, 1, 2, 3] rfl ?_
        refine J101 _ ?_
        first | exact (if_pos (by assumption)).symm | exact (if_neg (by assumption)).symm
    refine x_if_eq 79 dX12_sells_72 (by decide) (fun c72 => ?_) (fun c72 => ?_)
    · refine x_iconst (v := 0) dX12_sells_79 rfl ?_
      refine x_locs (L' := [(3, _), (0, _), (1, _), (2, _)]) [0, 1, 2, 3] rfl ?_
      refine J80 _ ?_
      unfold b2i
      (repeat' split) <;> first | rfl | contradiction | (simp_all; done)
    · refine x_iconst (v := 1) dX12_sells_75 rfl ?_
      refine x_goto 80 dX12_sells_76 (by decide) ?_
      refine x_locs (L' := [(3, _), (0, _), (1, _), (2, _)]) [0, 1, 2, 3] rfl ?_
      refine J80 _ ?_
      unfold b2i
      (repeat' split) <;> first | rfl | contradiction | (simp_all; done)
  refine x_icmp_eq 41 dX12_sells_34 (by decide) (fun c34 => ?_) (fun c34 => ?_)
  · refine x_iconst (v := 0) dX12_sells_41 rfl ?_
    refine x_locs (L' := [(3, _), (0, _), (1, _), (2, _)]) [0, 1, 2, 3] rfl ?_
    refine J42 _ ?_
    unfold soldK
    (repeat' split) <;> first | rfl | contradiction | (simp_all; done)
  · refine x_iconst (v := 1) dX12_sells_37 rfl ?_
    refine x_goto 42 dX12_sells_38 (by decide) ?_
    refine x_locs (L' := [(3, _), (0, _), (1, _), (2, _)]) [0, 1, 2, 3] rfl ?_
    refine J42 _ ?_
    unfold soldK
    (repeat' split) <;> first | rfl | contradiction | (simp_all; done)
/-- what a row of numbers holds, as far as the deeds ask -/
def RowA (N : Nat → Int32) (ns np no : Nat) : Prop := N 2 = nI ns ∧ N 3 = nI np ∧ N 4 = nI no ∧ ns ≤ 12 ∧ np ≤ 16 ∧ no ≤ 8 ∧ (∀ i, i < np → PotI N i) ∧ ∀ j, j < no → OrdI N j
theorem rg_of {x : Int32} {n : Nat} (hn : n < 2 ^ 31) (h : 0 ≤ x ∧ x < nI n) : ∃ i, i < n ∧ x = nI i := by
  obtain ⟨i, hi, rfl⟩ := nI_of (Int32.not_lt.mpr h.1)
  exact ⟨i, Nat.not_le.mp fun z => absurd h.2 (nI_nlt z hi), rfl⟩
section DEEDS
variable {l : Launch} {G : Gl} {h : Hp} {sv rem typ err lin wha its siz att wro tol : Int32} {N : Nat → Int32} {ns np no : Nat}
theorem ct_dRaise (ok : Ok G) (A : RowA N ns np no) (x y : Int32) : Ct l G mX12_raises 6 0 0 [.ref (Ad G 20), .int x, .int y] (mH G h (eMd G sv rem typ err lin 0 wha 0 its siz att wro tol) N) (fun w h' => ∃ r why' wha' beh' its' N', w = some (.int r) ∧ h' = mH G h (eMd G sv rem typ err lin why' wha' beh' its' siz att wro tol) N' ∧ DeedR (pRaise N x y) r why' wha' beh' its' N') := by
  obtain ⟨a2, a3, a4, b2, b3, b4, AP, AO⟩ := A
  by_cases q : 0 ≤ x ∧ x < N 2
  · obtain ⟨i, hi, rfl⟩ := rg_of (x := x) (n := ns) (by omega) (by rw [← a2]; exact q)
    exact (ct_rais_i ok hi a2 b2 a3 b3 y)
  · exact (ct_rais_o ok (by omega) a2 x y q)
theorem ct_dHit (ok : Ok G) (A : RowA N ns np no) (x y : Int32) : Ct l G mX12_planishes 6 0 0 [.ref (Ad G 20), .int x, .int y] (mH G h (eMd G sv rem typ err lin 0 wha 0 its siz att wro tol) N) (fun w h' => ∃ r why' wha' beh' its' N', w = some (.int r) ∧ h' = mH G h (eMd G sv rem typ err lin why' wha' beh' its' siz att wro tol) N' ∧ DeedR (pHit N x y) r why' wha' beh' its' N') := by
  obtain ⟨a2, a3, a4, b2, b3, b4, AP, AO⟩ := A
  by_cases q : 0 ≤ x ∧ x < N 3
  · obtain ⟨i, hi, rfl⟩ := rg_of (x := x) (n := np) (by omega) (by rw [← a3]; exact q)
    exact (ct_plan_i ok hi b3 a3 (AP i hi) y)
  · exact (ct_plan_o ok b3 a3 x y q)
theorem ct_dTin (ok : Ok G) (A : RowA N ns np no) (x y : Int32) : Ct l G mX12_tins 6 0 0 [.ref (Ad G 20), .int x, .int y] (mH G h (eMd G sv rem typ err lin 0 wha 0 its siz att wro tol) N) (fun w h' => ∃ r why' wha' beh' its' N', w = some (.int r) ∧ h' = mH G h (eMd G sv rem typ err lin why' wha' beh' its' siz att wro tol) N' ∧ DeedR (pTin N x y) r why' wha' beh' its' N') := by
  obtain ⟨a2, a3, a4, b2, b3, b4, AP, AO⟩ := A
  by_cases q : 0 ≤ x ∧ x < N 3
  · obtain ⟨i, hi, rfl⟩ := rg_of (x := x) (n := np) (by omega) (by rw [← a3]; exact q)
    exact (ct_tins_i ok hi b3 a3 (AP i hi) y)
  · exact (ct_tins_o ok b3 a3 x y q)
theorem ct_dCook (ok : Ok G) (A : RowA N ns np no) (x y : Int32) : Ct l G mX12_cooks 6 0 0 [.ref (Ad G 20), .int x, .int y] (mH G h (eMd G sv rem typ err lin 0 wha 0 its siz att wro tol) N) (fun w h' => ∃ r why' wha' beh' its' N', w = some (.int r) ∧ h' = mH G h (eMd G sv rem typ err lin why' wha' beh' its' siz att wro tol) N' ∧ DeedR (pCook N x y) r why' wha' beh' its' N') := by
  obtain ⟨a2, a3, a4, b2, b3, b4, AP, AO⟩ := A
  by_cases q : 0 ≤ x ∧ x < N 3
  · obtain ⟨i, hi, rfl⟩ := rg_of (x := x) (n := np) (by omega) (by rw [← a3]; exact q)
    exact (ct_cook ok hi b3 a3 (AP i hi) y)
  · exact (ct_cook_o ok b3 a3 x y q)
theorem ct_dSell (ok : Ok G) (A : RowA N ns np no) (x y : Int32) : Ct l G mX12_sells 6 0 0 [.ref (Ad G 20), .int x, .int y] (mH G h (eMd G sv rem typ err lin 0 wha 0 its siz att wro tol) N) (fun w h' => ∃ r why' wha' beh' its' N', w = some (.int r) ∧ h' = mH G h (eMd G sv rem typ err lin why' wha' beh' its' siz att wro tol) N' ∧ DeedR (pSell N x y) r why' wha' beh' its' N') := by
  obtain ⟨a2, a3, a4, b2, b3, b4, AP, AO⟩ := A
  by_cases q : 0 ≤ x ∧ x < N 3
  · obtain ⟨i, hi, rfl⟩ := rg_of (x := x) (n := np) (by omega) (by rw [← a3]; exact q)
    by_cases q2 : 0 ≤ y ∧ y < N 4
    · obtain ⟨j, hj, rfl⟩ := rg_of (x := y) (n := no) (by omega) (by rw [← a4]; exact q2)
      exact ct_sell_ii ok b3 a3 b4 a4 hi hj (AP i hi) (AO j hj)
    · exact ct_sell_io ok b3 a3 b4 a4 hi y q2
  · exact ct_sell_o ok b3 a3 x y q
theorem ct_dBars (ok : Ok G) (x : Int32) : Ct l G mX12_buys 6 0 0 [.ref (Ad G 20), .int x] (mH G h (eMd G sv rem typ err lin 0 wha 0 its siz att wro tol) N) (fun w h' => ∃ r why' wha' beh' its' N', w = some (.int r) ∧ h' = mH G h (eMd G sv rem typ err lin why' wha' beh' its' siz att wro tol) N' ∧ DeedR (pBars N x) r why' wha' beh' its' N') := (ct_X12_buys ok x)
end DEEDS
