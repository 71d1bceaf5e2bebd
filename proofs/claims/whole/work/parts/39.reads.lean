theorem mis0 {k : Nat} (hk : k < 3) {b : Int32} (hq : mx (kSm k - b) 0 ≤ 0 ↔ ¬ b < kSm k) : mx (kSm k - b) 0 = 0 ↔ ¬ smoothK k b = 0 := by
  have h0 : 0 ≤ mx (kSm k - b) 0 := by
    unfold mx
    split
    · exact Int32.le_refl 0
    · next q => exact Int32.not_lt.mp q
  have e : mx (kSm k - b) 0 = 0 ↔ mx (kSm k - b) 0 ≤ 0 := ⟨fun z => by rw [z]; exact Int32.le_refl 0, fun z => by rw [← Int32.toInt_inj]; simp only [Int32.le_iff_toInt_le, Int32.toInt_zero] at *; omega⟩
  rw [e, hq]
  unfold smoothK
  split
  · next q => exact ⟨fun z => absurd q z, fun z => absurd rfl z⟩
  · next q => exact ⟨fun _ => by decide, fun _ => q⟩
theorem smoothK_1 {k : Nat} {b : Int32} (h : ¬ smoothK k b = 0) : smoothK k b = 1 := by unfold smoothK at *; split at h <;> first | exact absurd rfl h | (split <;> first | contradiction | rfl)
theorem crackedK_1 {k : Nat} {g b : Int32} (h : ¬ crackedK k g b = 0) : crackedK k g b = 1 := by unfold crackedK at *; split at h <;> first | exact absurd rfl h | (split <;> first | contradiction | rfl)
theorem sm_s (f : Nat → Int32) (n : Nat) : sm f (n + 1) = sm f n + f n := rfl
set_option maxRecDepth 100000 in
set_option maxHeartbeats 4000000 in
theorem ct_ofPots_0 {l : Launch} {G : Gl} {h : Hp} {sv rem typ err lin why wha beh its siz att wro tol : Int32} {N : Nat → Int32} (ok : Ok G) {ns np no : Nat} (A : RowA N ns np no) : CtR l G mX12_ofPots 8 [.ref (Ad G 20), .int 0] (mH G h (eMd G sv rem typ err lin why wha beh its siz att wro tol) N) (some (.int (sm (fun i => if soldK (N (66 + 8 * i)) = 0 then (1 : Int32) else 0) np))) (mH G h (eMd G sv rem typ err lin why wha beh its siz att wro tol) N) := by
  obtain ⟨a2, a3, a4, b2, b3, b4, AP, AO⟩ := A
  refine Ct.of (L := [(0, _), (1, _)]) (by decide) (ble rfl) rfl ?_
  refine x_iconst (v := 0) dX12_ofPots_0 rfl ?_
  refine x_istore_n (L' := [(2, _), (0, _), (1, _)]) dX12_ofPots_1 rfl (ble rfl) rfl ?_
  refine x_iconst (v := 0) dX12_ofPots_2 rfl ?_
  refine x_istore_n (L' := [(3, _), (2, _), (0, _), (1, _)]) dX12_ofPots_3 rfl (ble rfl) rfl ?_
  refine x_locs (L' := [(3, _), (2, _), (0, _), (1, _)]) [0, 1, 2, 3] rfl ?_
  refine dn (P := fun i => XX l G mX12_ofPots (Rm 8 0 0) (KQ G (Rm 8 0 0) (fun w h' => w = some (.int (sm (fun i => if soldK (N (66 + 8 * i)) = 0 then (1 : Int32) else 0) np)) ∧ h' = (mH G h (eMd G sv rem typ err lin why wha beh its siz att wro tol) N))) 0 0 4 [(3, .int (nI i)), (2, .int (sm (fun i => if soldK (N (66 + 8 * i)) = 0 then (1 : Int32) else 0) i)), (0, .ref (Ad G 20)), (1, .int 0)] [] (mH G h (eMd G sv rem typ err lin why wha beh its siz att wro tol) N)) (n := np) ?_ (fun i hi ihi => ?_)
  · refine x_iload_n 0 dX12_ofPots_4 rfl rfl ?_
    first | refine x_aload_n 2 dX12_ofPots_5 rfl rfl ?_ | refine x_aload_nN 2 dX12_ofPots_5 rfl rfl ?_
    refine x_get fX12_9 rfl dX12_ofPots_6 (by with_reducible repeat first | assumption | exact mH_0 ok | exact mH_1 | exact hset_s | refine mH_o (by first | assumption | exact nA ok (by omega) (by omega) (by omega)) (by first | assumption | exact nA ok (by omega) (by omega) (by omega)) ?_ | refine hget_n (by first | assumption | exact Ne.symm (by assumption) | exact nA ok (by omega) (by omega) (by omega)) ?_) (by rfl) ?_
    refine x_iconst (v := 3) dX12_ofPots_9 rfl ?_
    refine x_mald (i := 3) (by first | exact Eq.refl (nI _) | exact ix_p _ _ | exact ix_o _ _ | exact ix_s _ | exact ix_s1 _ _ | (rw [ix_s]; exact nI_add _ _) | exact nI_add _ 1 | exact nI_add _ 2 | exact nI_add _ 3 | exact nI_add _ 4 | (rw [ix_o0]; exact nI_add _ 3) | (rw [ix_o0]; exact nI_add _ 4) | (rw [ix_o0]; exact nI_add _ _) | (rw [ix_o0]; exact (nI_add _ 3).trans (congrArg nI (by omega))) | (rw [ix_o0]; exact (nI_add _ 4).trans (congrArg nI (by omega))) | exact (nI_add _ 1).trans (congrArg nI (by omega)) | exact (nI_add _ 2).trans (congrArg nI (by omega)) | exact (nI_add _ 3).trans (congrArg nI (by omega)) | exact (nI_add _ 4).trans (congrArg nI (by omega))) dX12_ofPots_10 (by omega) rfl ?_
    refine x_icmp_ge 97 dX12_ofPots_11 (by decide) (fun _ => ?_) (fun z => by first | exact absurd (by rw [a3]; exact Int32.le_refl _) z | exact absurd z (by rw [a3]; exact Int32.le_refl _))
    refine x_iload_n 1 dX12_ofPots_97 rfl rfl ?_
    refine x_iret rfl dX12_ofPots_98 ?_
    exact ⟨rfl, rfl⟩
  · have P := AP i hi
    obtain ⟨hK, ⟨g, hg, hg1, hg9⟩, ⟨b, hb, hb2⟩, ⟨t, ht, ht9⟩, -⟩ := id P
    have hq := mis_e _ hK.2 b (by omega)
    rw [← hb] at hq
    have hq0 := mis0 hK.2 hq
    refine x_iload_n 0 dX12_ofPots_4 rfl rfl ?_
    first | refine x_aload_n 2 dX12_ofPots_5 rfl rfl ?_ | refine x_aload_nN 2 dX12_ofPots_5 rfl rfl ?_
    refine x_get fX12_9 rfl dX12_ofPots_6 (by with_reducible repeat first | assumption | exact mH_0 ok | exact mH_1 | exact hset_s | refine mH_o (by first | assumption | exact nA ok (by omega) (by omega) (by omega)) (by first | assumption | exact nA ok (by omega) (by omega) (by omega)) ?_ | refine hget_n (by first | assumption | exact Ne.symm (by assumption) | exact nA ok (by omega) (by omega) (by omega)) ?_) (by rfl) ?_
    refine x_iconst (v := 3) dX12_ofPots_9 rfl ?_
    refine x_mald (i := 3) (by first | exact Eq.refl (nI _) | exact ix_p _ _ | exact ix_o _ _ | exact ix_s _ | exact ix_s1 _ _ | (rw [ix_s]; exact nI_add _ _) | exact nI_add _ 1 | exact nI_add _ 2 | exact nI_add _ 3 | exact nI_add _ 4 | (rw [ix_o0]; exact nI_add _ 3) | (rw [ix_o0]; exact nI_add _ 4) | (rw [ix_o0]; exact nI_add _ _) | (rw [ix_o0]; exact (nI_add _ 3).trans (congrArg nI (by omega))) | (rw [ix_o0]; exact (nI_add _ 4).trans (congrArg nI (by omega))) | exact (nI_add _ 1).trans (congrArg nI (by omega)) | exact (nI_add _ 2).trans (congrArg nI (by omega)) | exact (nI_add _ 3).trans (congrArg nI (by omega)) | exact (nI_add _ 4).trans (congrArg nI (by omega))) dX12_ofPots_10 (by omega) rfl ?_
    refine x_icmp_ge 97 dX12_ofPots_11 (by decide) (fun z => by first | exact absurd z (by rw [a3]; exact nI_ge hi (by omega)) | exact absurd (by rw [a3]; exact nI_ge hi (by omega)) z) (fun _ => ?_)
    first | refine x_aload_n 2 dX12_ofPots_14 rfl rfl ?_ | refine x_aload_nN 2 dX12_ofPots_14 rfl rfl ?_
    refine x_iload_n 0 dX12_ofPots_15 rfl rfl ?_
    refine x_cV1 (As := [.int _]) (ct_X12_isSold ok (by omega)) vX12_132 rfl (x_recv (by with_reducible repeat first | assumption | exact mH_0 ok | exact mH_1 | exact hset_s | refine mH_o (by first | assumption | exact nA ok (by omega) (by omega) (by omega)) (by first | assumption | exact nA ok (by omega) (by omega) (by omega)) ?_ | refine hget_n (by first | assumption | exact Ne.symm (by assumption) | exact nA ok (by omega) (by omega) (by omega)) ?_) rfl) rfl ⟨ble rfl, ble rfl⟩ (ble rfl) dX12_ofPots_16 rfl ?_
    refine x_if_eq 26 dX12_ofPots_19 (by decide) (fun c19 => ?_) (fun c19 => ?_)
    · refine x_iconst (v := 1) dX12_ofPots_26 rfl ?_
      refine x_istore (L' := [(4, _), (3, _), (2, _), (0, _), (1, _)]) dX12_ofPots_27 (ble rfl) rfl ?_
      refine x_iload_n 2 dX12_ofPots_29 rfl rfl ?_
      refine x_iload_n 4 dX12_ofPots_30 rfl rfl ?_
      refine x_if_ne 39 dX12_ofPots_31 (by decide) (fun z => by first | exact absurd z (fun z => z rfl) | exact absurd (fun z => z rfl) z) (fun _ => ?_)
      refine x_iload 0 dX12_ofPots_34 rfl ?_
      refine x_goto 89 dX12_ofPots_36 (by decide) ?_
      refine x_iadd dX12_ofPots_89 ?_
      refine x_istore_n (L' := [(2, _), (4, _), (3, _), (0, _), (1, _)]) dX12_ofPots_90 rfl (ble rfl) rfl ?_
      refine x_iinc (L' := [(3, _), (2, _), (4, _), (0, _), (1, _)]) (j := 2) (nI (_ + 1)) dX12_ofPots_91 rfl (nI_1 _) (ble rfl) rfl ?_
      refine x_goto 4 dX12_ofPots_94 (by decide) ?_
      refine x_locs (L' := [(3, _), (2, _), (0, _), (1, _)]) [0, 1, 3, 4] rfl ?_
      refine x_eqL ?_ ihi
      first | (simp only [sm_s, if_pos c19]; done) | (simp only [sm_s, if_neg c19]; done)
    · refine x_iconst (v := 0) dX12_ofPots_22 rfl ?_
      refine x_goto 27 dX12_ofPots_23 (by decide) ?_
      refine x_istore (L' := [(4, _), (3, _), (2, _), (0, _), (1, _)]) dX12_ofPots_27 (ble rfl) rfl ?_
      refine x_iload_n 2 dX12_ofPots_29 rfl rfl ?_
      refine x_iload_n 4 dX12_ofPots_30 rfl rfl ?_
      refine x_if_ne 39 dX12_ofPots_31 (by decide) (fun z => by first | exact absurd z (fun z => z rfl) | exact absurd (fun z => z rfl) z) (fun _ => ?_)
      refine x_iload 0 dX12_ofPots_34 rfl ?_
      refine x_goto 89 dX12_ofPots_36 (by decide) ?_
      refine x_iadd dX12_ofPots_89 ?_
      refine x_istore_n (L' := [(2, _), (4, _), (3, _), (0, _), (1, _)]) dX12_ofPots_90 rfl (ble rfl) rfl ?_
      refine x_iinc (L' := [(3, _), (2, _), (4, _), (0, _), (1, _)]) (j := 2) (nI (_ + 1)) dX12_ofPots_91 rfl (nI_1 _) (ble rfl) rfl ?_
      refine x_goto 4 dX12_ofPots_94 (by decide) ?_
      refine x_locs (L' := [(3, _), (2, _), (0, _), (1, _)]) [0, 1, 3, 4] rfl ?_
      refine x_eqL ?_ ihi
      first | (simp only [sm_s, if_pos c19]; done) | (simp only [sm_s, if_neg c19]; done)
set_option maxRecDepth 100000 in
set_option maxHeartbeats 4000000 in
theorem ct_ofPots_1 {l : Launch} {G : Gl} {h : Hp} {sv rem typ err lin why wha beh its siz att wro tol : Int32} {N : Nat → Int32} (ok : Ok G) {ns np no : Nat} (A : RowA N ns np no) : CtR l G mX12_ofPots 8 [.ref (Ad G 20), .int 1] (mH G h (eMd G sv rem typ err lin why wha beh its siz att wro tol) N) (some (.int (sm (fun i => smoothK (kOf (N (60 + 8 * i))) (N (62 + 8 * i))) np))) (mH G h (eMd G sv rem typ err lin why wha beh its siz att wro tol) N) := by
  obtain ⟨a2, a3, a4, b2, b3, b4, AP, AO⟩ := A
  refine Ct.of (L := [(0, _), (1, _)]) (by decide) (ble rfl) rfl ?_
  refine x_iconst (v := 0) dX12_ofPots_0 rfl ?_
  refine x_istore_n (L' := [(2, _), (0, _), (1, _)]) dX12_ofPots_1 rfl (ble rfl) rfl ?_
  refine x_iconst (v := 0) dX12_ofPots_2 rfl ?_
  refine x_istore_n (L' := [(3, _), (2, _), (0, _), (1, _)]) dX12_ofPots_3 rfl (ble rfl) rfl ?_
  refine x_locs (L' := [(3, _), (2, _), (0, _), (1, _)]) [0, 1, 2, 3] rfl ?_
  refine dn (P := fun i => XX l G mX12_ofPots (Rm 8 0 0) (KQ G (Rm 8 0 0) (fun w h' => w = some (.int (sm (fun i => smoothK (kOf (N (60 + 8 * i))) (N (62 + 8 * i))) np)) ∧ h' = (mH G h (eMd G sv rem typ err lin why wha beh its siz att wro tol) N))) 0 0 4 [(3, .int (nI i)), (2, .int (sm (fun i => smoothK (kOf (N (60 + 8 * i))) (N (62 + 8 * i))) i)), (0, .ref (Ad G 20)), (1, .int 1)] [] (mH G h (eMd G sv rem typ err lin why wha beh its siz att wro tol) N)) (n := np) ?_ (fun i hi ihi => ?_)
  · refine x_iload_n 0 dX12_ofPots_4 rfl rfl ?_
    first | refine x_aload_n 2 dX12_ofPots_5 rfl rfl ?_ | refine x_aload_nN 2 dX12_ofPots_5 rfl rfl ?_
    refine x_get fX12_9 rfl dX12_ofPots_6 (by with_reducible repeat first | assumption | exact mH_0 ok | exact mH_1 | exact hset_s | refine mH_o (by first | assumption | exact nA ok (by omega) (by omega) (by omega)) (by first | assumption | exact nA ok (by omega) (by omega) (by omega)) ?_ | refine hget_n (by first | assumption | exact Ne.symm (by assumption) | exact nA ok (by omega) (by omega) (by omega)) ?_) (by rfl) ?_
    refine x_iconst (v := 3) dX12_ofPots_9 rfl ?_
    refine x_mald (i := 3) (by first | exact Eq.refl (nI _) | exact ix_p _ _ | exact ix_o _ _ | exact ix_s _ | exact ix_s1 _ _ | (rw [ix_s]; exact nI_add _ _) | exact nI_add _ 1 | exact nI_add _ 2 | exact nI_add _ 3 | exact nI_add _ 4 | (rw [ix_o0]; exact nI_add _ 3) | (rw [ix_o0]; exact nI_add _ 4) | (rw [ix_o0]; exact nI_add _ _) | (rw [ix_o0]; exact (nI_add _ 3).trans (congrArg nI (by omega))) | (rw [ix_o0]; exact (nI_add _ 4).trans (congrArg nI (by omega))) | exact (nI_add _ 1).trans (congrArg nI (by omega)) | exact (nI_add _ 2).trans (congrArg nI (by omega)) | exact (nI_add _ 3).trans (congrArg nI (by omega)) | exact (nI_add _ 4).trans (congrArg nI (by omega))) dX12_ofPots_10 (by omega) rfl ?_
    refine x_icmp_ge 97 dX12_ofPots_11 (by decide) (fun _ => ?_) (fun z => by first | exact absurd (by rw [a3]; exact Int32.le_refl _) z | exact absurd z (by rw [a3]; exact Int32.le_refl _))
    refine x_iload_n 1 dX12_ofPots_97 rfl rfl ?_
    refine x_iret rfl dX12_ofPots_98 ?_
    exact ⟨rfl, rfl⟩
  · have P := AP i hi
    obtain ⟨hK, ⟨g, hg, hg1, hg9⟩, ⟨b, hb, hb2⟩, ⟨t, ht, ht9⟩, -⟩ := id P
    have hq := mis_e _ hK.2 b (by omega)
    rw [← hb] at hq
    have hq0 := mis0 hK.2 hq
    refine x_iload_n 0 dX12_ofPots_4 rfl rfl ?_
    first | refine x_aload_n 2 dX12_ofPots_5 rfl rfl ?_ | refine x_aload_nN 2 dX12_ofPots_5 rfl rfl ?_
    refine x_get fX12_9 rfl dX12_ofPots_6 (by with_reducible repeat first | assumption | exact mH_0 ok | exact mH_1 | exact hset_s | refine mH_o (by first | assumption | exact nA ok (by omega) (by omega) (by omega)) (by first | assumption | exact nA ok (by omega) (by omega) (by omega)) ?_ | refine hget_n (by first | assumption | exact Ne.symm (by assumption) | exact nA ok (by omega) (by omega) (by omega)) ?_) (by rfl) ?_
    refine x_iconst (v := 3) dX12_ofPots_9 rfl ?_
    refine x_mald (i := 3) (by first | exact Eq.refl (nI _) | exact ix_p _ _ | exact ix_o _ _ | exact ix_s _ | exact ix_s1 _ _ | (rw [ix_s]; exact nI_add _ _) | exact nI_add _ 1 | exact nI_add _ 2 | exact nI_add _ 3 | exact nI_add _ 4 | (rw [ix_o0]; exact nI_add _ 3) | (rw [ix_o0]; exact nI_add _ 4) | (rw [ix_o0]; exact nI_add _ _) | (rw [ix_o0]; exact (nI_add _ 3).trans (congrArg nI (by omega))) | (rw [ix_o0]; exact (nI_add _ 4).trans (congrArg nI (by omega))) | exact (nI_add _ 1).trans (congrArg nI (by omega)) | exact (nI_add _ 2).trans (congrArg nI (by omega)) | exact (nI_add _ 3).trans (congrArg nI (by omega)) | exact (nI_add _ 4).trans (congrArg nI (by omega))) dX12_ofPots_10 (by omega) rfl ?_
    refine x_icmp_ge 97 dX12_ofPots_11 (by decide) (fun z => by first | exact absurd z (by rw [a3]; exact nI_ge hi (by omega)) | exact absurd (by rw [a3]; exact nI_ge hi (by omega)) z) (fun _ => ?_)
    first | refine x_aload_n 2 dX12_ofPots_14 rfl rfl ?_ | refine x_aload_nN 2 dX12_ofPots_14 rfl rfl ?_
    refine x_iload_n 0 dX12_ofPots_15 rfl rfl ?_
    refine x_cV1 (As := [.int _]) (ct_X12_isSold ok (by omega)) vX12_132 rfl (x_recv (by with_reducible repeat first | assumption | exact mH_0 ok | exact mH_1 | exact hset_s | refine mH_o (by first | assumption | exact nA ok (by omega) (by omega) (by omega)) (by first | assumption | exact nA ok (by omega) (by omega) (by omega)) ?_ | refine hget_n (by first | assumption | exact Ne.symm (by assumption) | exact nA ok (by omega) (by omega) (by omega)) ?_) rfl) rfl ⟨ble rfl, ble rfl⟩ (ble rfl) dX12_ofPots_16 rfl ?_
    refine x_if_eq 26 dX12_ofPots_19 (by decide) (fun c19 => ?_) (fun c19 => ?_)
    · refine x_iconst (v := 1) dX12_ofPots_26 rfl ?_
      refine x_istore (L' := [(4, _), (3, _), (2, _), (0, _), (1, _)]) dX12_ofPots_27 (ble rfl) rfl ?_
      refine x_iload_n 2 dX12_ofPots_29 rfl rfl ?_
      refine x_iload_n 4 dX12_ofPots_30 rfl rfl ?_
      refine x_if_ne 39 dX12_ofPots_31 (by decide) (fun _ => ?_) (fun z => by first | exact absurd (show ¬ (1 : Int32) = 0 by decide) z | exact absurd z (show ¬ (1 : Int32) = 0 by decide))
      refine x_iload_n 4 dX12_ofPots_39 rfl rfl ?_
      refine x_iconst (v := 1) dX12_ofPots_40 rfl ?_
      refine x_icmp_ne 60 dX12_ofPots_41 (by decide) (fun z => by first | exact absurd z (fun z => z rfl) | exact absurd (fun z => z rfl) z) (fun _ => ?_)
      first | refine x_aload_n 3 dX12_ofPots_44 rfl rfl ?_ | refine x_aload_nN 3 dX12_ofPots_44 rfl rfl ?_
      refine x_iload_n 1 dX12_ofPots_45 rfl rfl ?_
      refine x_cV1 (As := [.int _]) (ct_X12_missingBlows ok (by omega) (by assumption)) vX12_147 rfl (x_recv (by with_reducible repeat first | assumption | exact mH_0 ok | exact mH_1 | exact hset_s | refine mH_o (by first | assumption | exact nA ok (by omega) (by omega) (by omega)) (by first | assumption | exact nA ok (by omega) (by omega) (by omega)) ?_ | refine hget_n (by first | assumption | exact Ne.symm (by assumption) | exact nA ok (by omega) (by omega) (by omega)) ?_) rfl) rfl ⟨ble rfl, ble rfl⟩ (ble rfl) dX12_ofPots_46 rfl ?_
      refine x_if_ne 56 dX12_ofPots_49 (by decide) (fun c49 => ?_) (fun c49 => ?_)
      · refine x_iconst (v := 0) dX12_ofPots_56 rfl ?_
        refine x_goto 89 dX12_ofPots_57 (by decide) ?_
        refine x_iadd dX12_ofPots_89 ?_
        refine x_istore_n (L' := [(2, _), (4, _), (3, _), (0, _), (1, _)]) dX12_ofPots_90 rfl (ble rfl) rfl ?_
        refine x_iinc (L' := [(3, _), (2, _), (4, _), (0, _), (1, _)]) (j := 2) (nI (_ + 1)) dX12_ofPots_91 rfl (nI_1 _) (ble rfl) rfl ?_
        refine x_goto 4 dX12_ofPots_94 (by decide) ?_
        refine x_locs (L' := [(3, _), (2, _), (0, _), (1, _)]) [0, 1, 3, 4] rfl ?_
        refine x_eqL ?_ ihi
        first | (have z2 := smoothK_1 (hq0.mp c49); simp only [sm_s, z2]; done) | (have z := Classical.not_not.mp (fun y => c49 (hq0.mpr y)); simp only [sm_s, z]; done)
      · refine x_iconst (v := 1) dX12_ofPots_52 rfl ?_
        refine x_goto 89 dX12_ofPots_53 (by decide) ?_
        refine x_iadd dX12_ofPots_89 ?_
        refine x_istore_n (L' := [(2, _), (4, _), (3, _), (0, _), (1, _)]) dX12_ofPots_90 rfl (ble rfl) rfl ?_
        refine x_iinc (L' := [(3, _), (2, _), (4, _), (0, _), (1, _)]) (j := 2) (nI (_ + 1)) dX12_ofPots_91 rfl (nI_1 _) (ble rfl) rfl ?_
        refine x_goto 4 dX12_ofPots_94 (by decide) ?_
        refine x_locs (L' := [(3, _), (2, _), (0, _), (1, _)]) [0, 1, 3, 4] rfl ?_
        refine x_eqL ?_ ihi
        first | (have z2 := smoothK_1 (hq0.mp c49); simp only [sm_s, z2]; done) | (have z := Classical.not_not.mp (fun y => c49 (hq0.mpr y)); simp only [sm_s, z]; done)
    · refine x_iconst (v := 0) dX12_ofPots_22 rfl ?_
      refine x_goto 27 dX12_ofPots_23 (by decide) ?_
      refine x_istore (L' := [(4, _), (3, _), (2, _), (0, _), (1, _)]) dX12_ofPots_27 (ble rfl) rfl ?_
      refine x_iload_n 2 dX12_ofPots_29 rfl rfl ?_
      refine x_iload_n 4 dX12_ofPots_30 rfl rfl ?_
      refine x_if_ne 39 dX12_ofPots_31 (by decide) (fun _ => ?_) (fun z => by first | exact absurd (show ¬ (1 : Int32) = 0 by decide) z | exact absurd z (show ¬ (1 : Int32) = 0 by decide))
      refine x_iload_n 4 dX12_ofPots_39 rfl rfl ?_
      refine x_iconst (v := 1) dX12_ofPots_40 rfl ?_
      refine x_icmp_ne 60 dX12_ofPots_41 (by decide) (fun z => by first | exact absurd z (fun z => z rfl) | exact absurd (fun z => z rfl) z) (fun _ => ?_)
      first | refine x_aload_n 3 dX12_ofPots_44 rfl rfl ?_ | refine x_aload_nN 3 dX12_ofPots_44 rfl rfl ?_
      refine x_iload_n 1 dX12_ofPots_45 rfl rfl ?_
      refine x_cV1 (As := [.int _]) (ct_X12_missingBlows ok (by omega) (by assumption)) vX12_147 rfl (x_recv (by with_reducible repeat first | assumption | exact mH_0 ok | exact mH_1 | exact hset_s | refine mH_o (by first | assumption | exact nA ok (by omega) (by omega) (by omega)) (by first | assumption | exact nA ok (by omega) (by omega) (by omega)) ?_ | refine hget_n (by first | assumption | exact Ne.symm (by assumption) | exact nA ok (by omega) (by omega) (by omega)) ?_) rfl) rfl ⟨ble rfl, ble rfl⟩ (ble rfl) dX12_ofPots_46 rfl ?_
      refine x_if_ne 56 dX12_ofPots_49 (by decide) (fun c49 => ?_) (fun c49 => ?_)
      · refine x_iconst (v := 0) dX12_ofPots_56 rfl ?_
        refine x_goto 89 dX12_ofPots_57 (by decide) ?_
        refine x_iadd dX12_ofPots_89 ?_
        refine x_istore_n (L' := [(2, _), (4, _), (3, _), (0, _), (1, _)]) dX12_ofPots_90 rfl (ble rfl) rfl ?_
        refine x_iinc (L' := [(3, _), (2, _), (4, _), (0, _), (1, _)]) (j := 2) (nI (_ + 1)) dX12_ofPots_91 rfl (nI_1 _) (ble rfl) rfl ?_
        refine x_goto 4 dX12_ofPots_94 (by decide) ?_
        refine x_locs (L' := [(3, _), (2, _), (0, _), (1, _)]) [0, 1, 3, 4] rfl ?_
        refine x_eqL ?_ ihi
        first | (have z2 := smoothK_1 (hq0.mp c49); simp only [sm_s, z2]; done) | (have z := Classical.not_not.mp (fun y => c49 (hq0.mpr y)); simp only [sm_s, z]; done)
      · refine x_iconst (v := 1) dX12_ofPots_52 rfl ?_
        refine x_goto 89 dX12_ofPots_53 (by decide) ?_
        refine x_iadd dX12_ofPots_89 ?_
        refine x_istore_n (L' := [(2, _), (4, _), (3, _), (0, _), (1, _)]) dX12_ofPots_90 rfl (ble rfl) rfl ?_
        refine x_iinc (L' := [(3, _), (2, _), (4, _), (0, _), (1, _)]) (j := 2) (nI (_ + 1)) dX12_ofPots_91 rfl (nI_1 _) (ble rfl) rfl ?_
        refine x_goto 4 dX12_ofPots_94 (by decide) ?_
        refine x_locs (L' := [(3, _), (2, _), (0, _), (1, _)]) [0, 1, 3, 4] rfl ?_
        refine x_eqL ?_ ihi
        first | (have z2 := smoothK_1 (hq0.mp c49); simp only [sm_s, z2]; done) | (have z := Classical.not_not.mp (fun y => c49 (hq0.mpr y)); simp only [sm_s, z]; done)
set_option maxRecDepth 100000 in
set_option maxHeartbeats 4000000 in
theorem ct_ofPots_2 {l : Launch} {G : Gl} {h : Hp} {sv rem typ err lin why wha beh its siz att wro tol : Int32} {N : Nat → Int32} (ok : Ok G) {ns np no : Nat} (A : RowA N ns np no) : CtR l G mX12_ofPots 8 [.ref (Ad G 20), .int 2] (mH G h (eMd G sv rem typ err lin why wha beh its siz att wro tol) N) (some (.int (sm (fun i => crackedK (kOf (N (60 + 8 * i))) (N (61 + 8 * i)) (N (62 + 8 * i))) np))) (mH G h (eMd G sv rem typ err lin why wha beh its siz att wro tol) N) := by
  obtain ⟨a2, a3, a4, b2, b3, b4, AP, AO⟩ := A
  refine Ct.of (L := [(0, _), (1, _)]) (by decide) (ble rfl) rfl ?_
  refine x_iconst (v := 0) dX12_ofPots_0 rfl ?_
  refine x_istore_n (L' := [(2, _), (0, _), (1, _)]) dX12_ofPots_1 rfl (ble rfl) rfl ?_
  refine x_iconst (v := 0) dX12_ofPots_2 rfl ?_
  refine x_istore_n (L' := [(3, _), (2, _), (0, _), (1, _)]) dX12_ofPots_3 rfl (ble rfl) rfl ?_
  refine x_locs (L' := [(3, _), (2, _), (0, _), (1, _)]) [0, 1, 2, 3] rfl ?_
  refine dn (P := fun i => XX l G mX12_ofPots (Rm 8 0 0) (KQ G (Rm 8 0 0) (fun w h' => w = some (.int (sm (fun i => crackedK (kOf (N (60 + 8 * i))) (N (61 + 8 * i)) (N (62 + 8 * i))) np)) ∧ h' = (mH G h (eMd G sv rem typ err lin why wha beh its siz att wro tol) N))) 0 0 4 [(3, .int (nI i)), (2, .int (sm (fun i => crackedK (kOf (N (60 + 8 * i))) (N (61 + 8 * i)) (N (62 + 8 * i))) i)), (0, .ref (Ad G 20)), (1, .int 2)] [] (mH G h (eMd G sv rem typ err lin why wha beh its siz att wro tol) N)) (n := np) ?_ (fun i hi ihi => ?_)
  · refine x_iload_n 0 dX12_ofPots_4 rfl rfl ?_
    first | refine x_aload_n 2 dX12_ofPots_5 rfl rfl ?_ | refine x_aload_nN 2 dX12_ofPots_5 rfl rfl ?_
    refine x_get fX12_9 rfl dX12_ofPots_6 (by with_reducible repeat first | assumption | exact mH_0 ok | exact mH_1 | exact hset_s | refine mH_o (by first | assumption | exact nA ok (by omega) (by omega) (by omega)) (by first | assumption | exact nA ok (by omega) (by omega) (by omega)) ?_ | refine hget_n (by first | assumption | exact Ne.symm (by assumption) | exact nA ok (by omega) (by omega) (by omega)) ?_) (by rfl) ?_
    refine x_iconst (v := 3) dX12_ofPots_9 rfl ?_
    refine x_mald (i := 3) (by first | exact Eq.refl (nI _) | exact ix_p _ _ | exact ix_o _ _ | exact ix_s _ | exact ix_s1 _ _ | (rw [ix_s]; exact nI_add _ _) | exact nI_add _ 1 | exact nI_add _ 2 | exact nI_add _ 3 | exact nI_add _ 4 | (rw [ix_o0]; exact nI_add _ 3) | (rw [ix_o0]; exact nI_add _ 4) | (rw [ix_o0]; exact nI_add _ _) | (rw [ix_o0]; exact (nI_add _ 3).trans (congrArg nI (by omega))) | (rw [ix_o0]; exact (nI_add _ 4).trans (congrArg nI (by omega))) | exact (nI_add _ 1).trans (congrArg nI (by omega)) | exact (nI_add _ 2).trans (congrArg nI (by omega)) | exact (nI_add _ 3).trans (congrArg nI (by omega)) | exact (nI_add _ 4).trans (congrArg nI (by omega))) dX12_ofPots_10 (by omega) rfl ?_
    refine x_icmp_ge 97 dX12_ofPots_11 (by decide) (fun _ => ?_) (fun z => by first | exact absurd (by rw [a3]; exact Int32.le_refl _) z | exact absurd z (by rw [a3]; exact Int32.le_refl _))
    refine x_iload_n 1 dX12_ofPots_97 rfl rfl ?_
    refine x_iret rfl dX12_ofPots_98 ?_
    exact ⟨rfl, rfl⟩
  · have P := AP i hi
    obtain ⟨hK, ⟨g, hg, hg1, hg9⟩, ⟨b, hb, hb2⟩, ⟨t, ht, ht9⟩, -⟩ := id P
    have hq := mis_e _ hK.2 b (by omega)
    rw [← hb] at hq
    have hq0 := mis0 hK.2 hq
    refine x_iload_n 0 dX12_ofPots_4 rfl rfl ?_
    first | refine x_aload_n 2 dX12_ofPots_5 rfl rfl ?_ | refine x_aload_nN 2 dX12_ofPots_5 rfl rfl ?_
    refine x_get fX12_9 rfl dX12_ofPots_6 (by with_reducible repeat first | assumption | exact mH_0 ok | exact mH_1 | exact hset_s | refine mH_o (by first | assumption | exact nA ok (by omega) (by omega) (by omega)) (by first | assumption | exact nA ok (by omega) (by omega) (by omega)) ?_ | refine hget_n (by first | assumption | exact Ne.symm (by assumption) | exact nA ok (by omega) (by omega) (by omega)) ?_) (by rfl) ?_
    refine x_iconst (v := 3) dX12_ofPots_9 rfl ?_
    refine x_mald (i := 3) (by first | exact Eq.refl (nI _) | exact ix_p _ _ | exact ix_o _ _ | exact ix_s _ | exact ix_s1 _ _ | (rw [ix_s]; exact nI_add _ _) | exact nI_add _ 1 | exact nI_add _ 2 | exact nI_add _ 3 | exact nI_add _ 4 | (rw [ix_o0]; exact nI_add _ 3) | (rw [ix_o0]; exact nI_add _ 4) | (rw [ix_o0]; exact nI_add _ _) | (rw [ix_o0]; exact (nI_add _ 3).trans (congrArg nI (by omega))) | (rw [ix_o0]; exact (nI_add _ 4).trans (congrArg nI (by omega))) | exact (nI_add _ 1).trans (congrArg nI (by omega)) | exact (nI_add _ 2).trans (congrArg nI (by omega)) | exact (nI_add _ 3).trans (congrArg nI (by omega)) | exact (nI_add _ 4).trans (congrArg nI (by omega))) dX12_ofPots_10 (by omega) rfl ?_
    refine x_icmp_ge 97 dX12_ofPots_11 (by decide) (fun z => by first | exact absurd z (by rw [a3]; exact nI_ge hi (by omega)) | exact absurd (by rw [a3]; exact nI_ge hi (by omega)) z) (fun _ => ?_)
    first | refine x_aload_n 2 dX12_ofPots_14 rfl rfl ?_ | refine x_aload_nN 2 dX12_ofPots_14 rfl rfl ?_
    refine x_iload_n 0 dX12_ofPots_15 rfl rfl ?_
    refine x_cV1 (As := [.int _]) (ct_X12_isSold ok (by omega)) vX12_132 rfl (x_recv (by with_reducible repeat first | assumption | exact mH_0 ok | exact mH_1 | exact hset_s | refine mH_o (by first | assumption | exact nA ok (by omega) (by omega) (by omega)) (by first | assumption | exact nA ok (by omega) (by omega) (by omega)) ?_ | refine hget_n (by first | assumption | exact Ne.symm (by assumption) | exact nA ok (by omega) (by omega) (by omega)) ?_) rfl) rfl ⟨ble rfl, ble rfl⟩ (ble rfl) dX12_ofPots_16 rfl ?_
    refine x_if_eq 26 dX12_ofPots_19 (by decide) (fun c19 => ?_) (fun c19 => ?_)
    · refine x_iconst (v := 1) dX12_ofPots_26 rfl ?_
      refine x_istore (L' := [(4, _), (3, _), (2, _), (0, _), (1, _)]) dX12_ofPots_27 (ble rfl) rfl ?_
      refine x_iload_n 2 dX12_ofPots_29 rfl rfl ?_
      refine x_iload_n 4 dX12_ofPots_30 rfl rfl ?_
      refine x_if_ne 39 dX12_ofPots_31 (by decide) (fun _ => ?_) (fun z => by first | exact absurd (show ¬ (2 : Int32) = 0 by decide) z | exact absurd z (show ¬ (2 : Int32) = 0 by decide))
      refine x_iload_n 4 dX12_ofPots_39 rfl rfl ?_
      refine x_iconst (v := 1) dX12_ofPots_40 rfl ?_
      refine x_icmp_ne 60 dX12_ofPots_41 (by decide) (fun _ => ?_) (fun z => by first | exact absurd (show ¬ (2 : Int32) = 1 by decide) z | exact absurd z (show ¬ (2 : Int32) = 1 by decide))
      refine x_iload_n 4 dX12_ofPots_60 rfl rfl ?_
      refine x_iconst (v := 2) dX12_ofPots_61 rfl ?_
      refine x_icmp_ne 81 dX12_ofPots_62 (by decide) (fun z => by first | exact absurd z (fun z => z rfl) | exact absurd (fun z => z rfl) z) (fun _ => ?_)
      first | refine x_aload_n 3 dX12_ofPots_65 rfl rfl ?_ | refine x_aload_nN 3 dX12_ofPots_65 rfl rfl ?_
      refine x_iload_n 1 dX12_ofPots_66 rfl rfl ?_
      refine x_cV1 (As := [.int _]) (ct_X12_isCracked ok (by omega) (by assumption)) vX12_135 rfl (x_recv (by with_reducible repeat first | assumption | exact mH_0 ok | exact mH_1 | exact hset_s | refine mH_o (by first | assumption | exact nA ok (by omega) (by omega) (by omega)) (by first | assumption | exact nA ok (by omega) (by omega) (by omega)) ?_ | refine hget_n (by first | assumption | exact Ne.symm (by assumption) | exact nA ok (by omega) (by omega) (by omega)) ?_) rfl) rfl ⟨ble rfl, ble rfl⟩ (ble rfl) dX12_ofPots_67 rfl ?_
      refine x_if_eq 77 dX12_ofPots_70 (by decide) (fun c70 => ?_) (fun c70 => ?_)
      · refine x_iconst (v := 0) dX12_ofPots_77 rfl ?_
        refine x_goto 89 dX12_ofPots_78 (by decide) ?_
        refine x_iadd dX12_ofPots_89 ?_
        refine x_istore_n (L' := [(2, _), (4, _), (3, _), (0, _), (1, _)]) dX12_ofPots_90 rfl (ble rfl) rfl ?_
        refine x_iinc (L' := [(3, _), (2, _), (4, _), (0, _), (1, _)]) (j := 2) (nI (_ + 1)) dX12_ofPots_91 rfl (nI_1 _) (ble rfl) rfl ?_
        refine x_goto 4 dX12_ofPots_94 (by decide) ?_
        refine x_locs (L' := [(3, _), (2, _), (0, _), (1, _)]) [0, 1, 3, 4] rfl ?_
        refine x_eqL ?_ ihi
        first | (have z := crackedK_1 c70; simp only [sm_s, z]; done) | (simp only [sm_s, c70]; done)
      · refine x_iconst (v := 1) dX12_ofPots_73 rfl ?_
        refine x_goto 89 dX12_ofPots_74 (by decide) ?_
        refine x_iadd dX12_ofPots_89 ?_
        refine x_istore_n (L' := [(2, _), (4, _), (3, _), (0, _), (1, _)]) dX12_ofPots_90 rfl (ble rfl) rfl ?_
        refine x_iinc (L' := [(3, _), (2, _), (4, _), (0, _), (1, _)]) (j := 2) (nI (_ + 1)) dX12_ofPots_91 rfl (nI_1 _) (ble rfl) rfl ?_
        refine x_goto 4 dX12_ofPots_94 (by decide) ?_
        refine x_locs (L' := [(3, _), (2, _), (0, _), (1, _)]) [0, 1, 3, 4] rfl ?_
        refine x_eqL ?_ ihi
        first | (have z := crackedK_1 c70; simp only [sm_s, z]; done) | (simp only [sm_s, c70]; done)
    · refine x_iconst (v := 0) dX12_ofPots_22 rfl ?_
      refine x_goto 27 dX12_ofPots_23 (by decide) ?_
      refine x_istore (L' := [(4, _), (3, _), (2, _), (0, _), (1, _)]) dX12_ofPots_27 (ble rfl) rfl ?_
      refine x_iload_n 2 dX12_ofPots_29 rfl rfl ?_
      refine x_iload_n 4 dX12_ofPots_30 rfl rfl ?_
      refine x_if_ne 39 dX12_ofPots_31 (by decide) (fun _ => ?_) (fun z => by first | exact absurd (show ¬ (2 : Int32) = 0 by decide) z | exact absurd z (show ¬ (2 : Int32) = 0 by decide))
      refine x_iload_n 4 dX12_ofPots_39 rfl rfl ?_
      refine x_iconst (v := 1) dX12_ofPots_40 rfl ?_
      refine x_icmp_ne 60 dX12_ofPots_41 (by decide) (fun _ => ?_) (fun z => by first | exact absurd (show ¬ (2 : Int32) = 1 by decide) z | exact absurd z (show ¬ (2 : Int32) = 1 by decide))
      refine x_iload_n 4 dX12_ofPots_60 rfl rfl ?_
      refine x_iconst (v := 2) dX12_ofPots_61 rfl ?_
      refine x_icmp_ne 81 dX12_ofPots_62 (by decide) (fun z => by first | exact absurd z (fun z => z rfl) | exact absurd (fun z => z rfl) z) (fun _ => ?_)
      first | refine x_aload_n 3 dX12_ofPots_65 rfl rfl ?_ | refine x_aload_nN 3 dX12_ofPots_65 rfl rfl ?_
      refine x_iload_n 1 dX12_ofPots_66 rfl rfl ?_
      refine x_cV1 (As := [.int _]) (ct_X12_isCracked ok (by omega) (by assumption)) vX12_135 rfl (x_recv (by with_reducible repeat first | assumption | exact mH_0 ok | exact mH_1 | exact hset_s | refine mH_o (by first | assumption | exact nA ok (by omega) (by omega) (by omega)) (by first | assumption | exact nA ok (by omega) (by omega) (by omega)) ?_ | refine hget_n (by first | assumption | exact Ne.symm (by assumption) | exact nA ok (by omega) (by omega) (by omega)) ?_) rfl) rfl ⟨ble rfl, ble rfl⟩ (ble rfl) dX12_ofPots_67 rfl ?_
      refine x_if_eq 77 dX12_ofPots_70 (by decide) (fun c70 => ?_) (fun c70 => ?_)
      · refine x_iconst (v := 0) dX12_ofPots_77 rfl ?_
        refine x_goto 89 dX12_ofPots_78 (by decide) ?_
        refine x_iadd dX12_ofPots_89 ?_
        refine x_istore_n (L' := [(2, _), (4, _), (3, _), (0, _), (1, _)]) dX12_ofPots_90 rfl (ble rfl) rfl ?_
        refine x_iinc (L' := [(3, _), (2, _), (4, _), (0, _), (1, _)]) (j := 2) (nI (_ + 1)) dX12_ofPots_91 rfl (nI_1 _) (ble rfl) rfl ?_
        refine x_goto 4 dX12_ofPots_94 (by decide) ?_
        refine x_locs (L' := [(3, _), (2, _), (0, _), (1, _)]) [0, 1, 3, 4] rfl ?_
        refine x_eqL ?_ ihi
        first | (have z := crackedK_1 c70; simp only [sm_s, z]; done) | (simp only [sm_s, c70]; done)
      · refine x_iconst (v := 1) dX12_ofPots_73 rfl ?_
        refine x_goto 89 dX12_ofPots_74 (by decide) ?_
        refine x_iadd dX12_ofPots_89 ?_
        refine x_istore_n (L' := [(2, _), (4, _), (3, _), (0, _), (1, _)]) dX12_ofPots_90 rfl (ble rfl) rfl ?_
        refine x_iinc (L' := [(3, _), (2, _), (4, _), (0, _), (1, _)]) (j := 2) (nI (_ + 1)) dX12_ofPots_91 rfl (nI_1 _) (ble rfl) rfl ?_
        refine x_goto 4 dX12_ofPots_94 (by decide) ?_
        refine x_locs (L' := [(3, _), (2, _), (0, _), (1, _)]) [0, 1, 3, 4] rfl ?_
        refine x_eqL ?_ ihi
        first | (have z := crackedK_1 c70; simp only [sm_s, z]; done) | (simp only [sm_s, c70]; done)
set_option maxRecDepth 100000 in
set_option maxHeartbeats 4000000 in
theorem ct_ofPots_3 {l : Launch} {G : Gl} {h : Hp} {sv rem typ err lin why wha beh its siz att wro tol : Int32} {N : Nat → Int32} (ok : Ok G) {ns np no : Nat} (A : RowA N ns np no) : CtR l G mX12_ofPots 8 [.ref (Ad G 20), .int 3] (mH G h (eMd G sv rem typ err lin why wha beh its siz att wro tol) N) (some (.int (sm (fun i => (if soldK (N (66 + 8 * i)) = 0 then (1 : Int32) else 0) * ringK (kOf (N (60 + 8 * i))) (N (61 + 8 * i)) (N (62 + 8 * i)) (N (63 + 8 * i))) np))) (mH G h (eMd G sv rem typ err lin why wha beh its siz att wro tol) N) := by
  obtain ⟨a2, a3, a4, b2, b3, b4, AP, AO⟩ := A
  refine Ct.of (L := [(0, _), (1, _)]) (by decide) (ble rfl) rfl ?_
  refine x_iconst (v := 0) dX12_ofPots_0 rfl ?_
  refine x_istore_n (L' := [(2, _), (0, _), (1, _)]) dX12_ofPots_1 rfl (ble rfl) rfl ?_
  refine x_iconst (v := 0) dX12_ofPots_2 rfl ?_
  refine x_istore_n (L' := [(3, _), (2, _), (0, _), (1, _)]) dX12_ofPots_3 rfl (ble rfl) rfl ?_
  refine x_locs (L' := [(3, _), (2, _), (0, _), (1, _)]) [0, 1, 2, 3] rfl ?_
  refine dn (P := fun i => XX l G mX12_ofPots (Rm 8 0 0) (KQ G (Rm 8 0 0) (fun w h' => w = some (.int (sm (fun i => (if soldK (N (66 + 8 * i)) = 0 then (1 : Int32) else 0) * ringK (kOf (N (60 + 8 * i))) (N (61 + 8 * i)) (N (62 + 8 * i)) (N (63 + 8 * i))) np)) ∧ h' = (mH G h (eMd G sv rem typ err lin why wha beh its siz att wro tol) N))) 0 0 4 [(3, .int (nI i)), (2, .int (sm (fun i => (if soldK (N (66 + 8 * i)) = 0 then (1 : Int32) else 0) * ringK (kOf (N (60 + 8 * i))) (N (61 + 8 * i)) (N (62 + 8 * i)) (N (63 + 8 * i))) i)), (0, .ref (Ad G 20)), (1, .int 3)] [] (mH G h (eMd G sv rem typ err lin why wha beh its siz att wro tol) N)) (n := np) ?_ (fun i hi ihi => ?_)
  · refine x_iload_n 0 dX12_ofPots_4 rfl rfl ?_
    first | refine x_aload_n 2 dX12_ofPots_5 rfl rfl ?_ | refine x_aload_nN 2 dX12_ofPots_5 rfl rfl ?_
    refine x_get fX12_9 rfl dX12_ofPots_6 (by with_reducible repeat first | assumption | exact mH_0 ok | exact mH_1 | exact hset_s | refine mH_o (by first | assumption | exact nA ok (by omega) (by omega) (by omega)) (by first | assumption | exact nA ok (by omega) (by omega) (by omega)) ?_ | refine hget_n (by first | assumption | exact Ne.symm (by assumption) | exact nA ok (by omega) (by omega) (by omega)) ?_) (by rfl) ?_
    refine x_iconst (v := 3) dX12_ofPots_9 rfl ?_
    refine x_mald (i := 3) (by first | exact Eq.refl (nI _) | exact ix_p _ _ | exact ix_o _ _ | exact ix_s _ | exact ix_s1 _ _ | (rw [ix_s]; exact nI_add _ _) | exact nI_add _ 1 | exact nI_add _ 2 | exact nI_add _ 3 | exact nI_add _ 4 | (rw [ix_o0]; exact nI_add _ 3) | (rw [ix_o0]; exact nI_add _ 4) | (rw [ix_o0]; exact nI_add _ _) | (rw [ix_o0]; exact (nI_add _ 3).trans (congrArg nI (by omega))) | (rw [ix_o0]; exact (nI_add _ 4).trans (congrArg nI (by omega))) | exact (nI_add _ 1).trans (congrArg nI (by omega)) | exact (nI_add _ 2).trans (congrArg nI (by omega)) | exact (nI_add _ 3).trans (congrArg nI (by omega)) | exact (nI_add _ 4).trans (congrArg nI (by omega))) dX12_ofPots_10 (by omega) rfl ?_
    refine x_icmp_ge 97 dX12_ofPots_11 (by decide) (fun _ => ?_) (fun z => by first | exact absurd (by rw [a3]; exact Int32.le_refl _) z | exact absurd z (by rw [a3]; exact Int32.le_refl _))
    refine x_iload_n 1 dX12_ofPots_97 rfl rfl ?_
    refine x_iret rfl dX12_ofPots_98 ?_
    exact ⟨rfl, rfl⟩
  · have P := AP i hi
    obtain ⟨hK, ⟨g, hg, hg1, hg9⟩, ⟨b, hb, hb2⟩, ⟨t, ht, ht9⟩, -⟩ := id P
    have hq := mis_e _ hK.2 b (by omega)
    rw [← hb] at hq
    have hq0 := mis0 hK.2 hq
    refine x_iload_n 0 dX12_ofPots_4 rfl rfl ?_
    first | refine x_aload_n 2 dX12_ofPots_5 rfl rfl ?_ | refine x_aload_nN 2 dX12_ofPots_5 rfl rfl ?_
    refine x_get fX12_9 rfl dX12_ofPots_6 (by with_reducible repeat first | assumption | exact mH_0 ok | exact mH_1 | exact hset_s | refine mH_o (by first | assumption | exact nA ok (by omega) (by omega) (by omega)) (by first | assumption | exact nA ok (by omega) (by omega) (by omega)) ?_ | refine hget_n (by first | assumption | exact Ne.symm (by assumption) | exact nA ok (by omega) (by omega) (by omega)) ?_) (by rfl) ?_
    refine x_iconst (v := 3) dX12_ofPots_9 rfl ?_
    refine x_mald (i := 3) (by first | exact Eq.refl (nI _) | exact ix_p _ _ | exact ix_o _ _ | exact ix_s _ | exact ix_s1 _ _ | (rw [ix_s]; exact nI_add _ _) | exact nI_add _ 1 | exact nI_add _ 2 | exact nI_add _ 3 | exact nI_add _ 4 | (rw [ix_o0]; exact nI_add _ 3) | (rw [ix_o0]; exact nI_add _ 4) | (rw [ix_o0]; exact nI_add _ _) | (rw [ix_o0]; exact (nI_add _ 3).trans (congrArg nI (by omega))) | (rw [ix_o0]; exact (nI_add _ 4).trans (congrArg nI (by omega))) | exact (nI_add _ 1).trans (congrArg nI (by omega)) | exact (nI_add _ 2).trans (congrArg nI (by omega)) | exact (nI_add _ 3).trans (congrArg nI (by omega)) | exact (nI_add _ 4).trans (congrArg nI (by omega))) dX12_ofPots_10 (by omega) rfl ?_
    refine x_icmp_ge 97 dX12_ofPots_11 (by decide) (fun z => by first | exact absurd z (by rw [a3]; exact nI_ge hi (by omega)) | exact absurd (by rw [a3]; exact nI_ge hi (by omega)) z) (fun _ => ?_)
    first | refine x_aload_n 2 dX12_ofPots_14 rfl rfl ?_ | refine x_aload_nN 2 dX12_ofPots_14 rfl rfl ?_
    refine x_iload_n 0 dX12_ofPots_15 rfl rfl ?_
    refine x_cV1 (As := [.int _]) (ct_X12_isSold ok (by omega)) vX12_132 rfl (x_recv (by with_reducible repeat first | assumption | exact mH_0 ok | exact mH_1 | exact hset_s | refine mH_o (by first | assumption | exact nA ok (by omega) (by omega) (by omega)) (by first | assumption | exact nA ok (by omega) (by omega) (by omega)) ?_ | refine hget_n (by first | assumption | exact Ne.symm (by assumption) | exact nA ok (by omega) (by omega) (by omega)) ?_) rfl) rfl ⟨ble rfl, ble rfl⟩ (ble rfl) dX12_ofPots_16 rfl ?_
    refine x_if_eq 26 dX12_ofPots_19 (by decide) (fun c19 => ?_) (fun c19 => ?_)
    · refine x_iconst (v := 1) dX12_ofPots_26 rfl ?_
      refine x_istore (L' := [(4, _), (3, _), (2, _), (0, _), (1, _)]) dX12_ofPots_27 (ble rfl) rfl ?_
      refine x_iload_n 2 dX12_ofPots_29 rfl rfl ?_
      refine x_iload_n 4 dX12_ofPots_30 rfl rfl ?_
      refine x_if_ne 39 dX12_ofPots_31 (by decide) (fun _ => ?_) (fun z => by first | exact absurd (show ¬ (3 : Int32) = 0 by decide) z | exact absurd z (show ¬ (3 : Int32) = 0 by decide))
      refine x_iload_n 4 dX12_ofPots_39 rfl rfl ?_
      refine x_iconst (v := 1) dX12_ofPots_40 rfl ?_
      refine x_icmp_ne 60 dX12_ofPots_41 (by decide) (fun _ => ?_) (fun z => by first | exact absurd (show ¬ (3 : Int32) = 1 by decide) z | exact absurd z (show ¬ (3 : Int32) = 1 by decide))
      refine x_iload_n 4 dX12_ofPots_60 rfl rfl ?_
      refine x_iconst (v := 2) dX12_ofPots_61 rfl ?_
      refine x_icmp_ne 81 dX12_ofPots_62 (by decide) (fun _ => ?_) (fun z => by first | exact absurd (show ¬ (3 : Int32) = 2 by decide) z | exact absurd z (show ¬ (3 : Int32) = 2 by decide))
      refine x_iload 0 dX12_ofPots_81 rfl ?_
      first | refine x_aload_n 3 dX12_ofPots_83 rfl rfl ?_ | refine x_aload_nN 3 dX12_ofPots_83 rfl rfl ?_
      refine x_iload_n 1 dX12_ofPots_84 rfl rfl ?_
      refine x_cV1 (As := [.int _]) (ct_X12_soundOf ok (by omega) (by assumption)) vX12_194 rfl (x_recv (by with_reducible repeat first | assumption | exact mH_0 ok | exact mH_1 | exact hset_s | refine mH_o (by first | assumption | exact nA ok (by omega) (by omega) (by omega)) (by first | assumption | exact nA ok (by omega) (by omega) (by omega)) ?_ | refine hget_n (by first | assumption | exact Ne.symm (by assumption) | exact nA ok (by omega) (by omega) (by omega)) ?_) rfl) rfl ⟨ble rfl, ble rfl⟩ (ble rfl) dX12_ofPots_85 rfl ?_
      refine x_imul dX12_ofPots_88 ?_
      refine x_iadd dX12_ofPots_89 ?_
      refine x_istore_n (L' := [(2, _), (4, _), (3, _), (0, _), (1, _)]) dX12_ofPots_90 rfl (ble rfl) rfl ?_
      refine x_iinc (L' := [(3, _), (2, _), (4, _), (0, _), (1, _)]) (j := 2) (nI (_ + 1)) dX12_ofPots_91 rfl (nI_1 _) (ble rfl) rfl ?_
      refine x_goto 4 dX12_ofPots_94 (by decide) ?_
      refine x_locs (L' := [(3, _), (2, _), (0, _), (1, _)]) [0, 1, 3, 4] rfl ?_
      refine x_eqL ?_ ihi
      first | (simp only [sm_s, if_pos c19]; done) | (simp only [sm_s, if_neg c19]; done)
    · refine x_iconst (v := 0) dX12_ofPots_22 rfl ?_
      refine x_goto 27 dX12_ofPots_23 (by decide) ?_
      refine x_istore (L' := [(4, _), (3, _), (2, _), (0, _), (1, _)]) dX12_ofPots_27 (ble rfl) rfl ?_
      refine x_iload_n 2 dX12_ofPots_29 rfl rfl ?_
      refine x_iload_n 4 dX12_ofPots_30 rfl rfl ?_
      refine x_if_ne 39 dX12_ofPots_31 (by decide) (fun _ => ?_) (fun z => by first | exact absurd (show ¬ (3 : Int32) = 0 by decide) z | exact absurd z (show ¬ (3 : Int32) = 0 by decide))
      refine x_iload_n 4 dX12_ofPots_39 rfl rfl ?_
      refine x_iconst (v := 1) dX12_ofPots_40 rfl ?_
      refine x_icmp_ne 60 dX12_ofPots_41 (by decide) (fun _ => ?_) (fun z => by first | exact absurd (show ¬ (3 : Int32) = 1 by decide) z | exact absurd z (show ¬ (3 : Int32) = 1 by decide))
      refine x_iload_n 4 dX12_ofPots_60 rfl rfl ?_
      refine x_iconst (v := 2) dX12_ofPots_61 rfl ?_
      refine x_icmp_ne 81 dX12_ofPots_62 (by decide) (fun _ => ?_) (fun z => by first | exact absurd (show ¬ (3 : Int32) = 2 by decide) z | exact absurd z (show ¬ (3 : Int32) = 2 by decide))
      refine x_iload 0 dX12_ofPots_81 rfl ?_
      first | refine x_aload_n 3 dX12_ofPots_83 rfl rfl ?_ | refine x_aload_nN 3 dX12_ofPots_83 rfl rfl ?_
      refine x_iload_n 1 dX12_ofPots_84 rfl rfl ?_
      refine x_cV1 (As := [.int _]) (ct_X12_soundOf ok (by omega) (by assumption)) vX12_194 rfl (x_recv (by with_reducible repeat first | assumption | exact mH_0 ok | exact mH_1 | exact hset_s | refine mH_o (by first | assumption | exact nA ok (by omega) (by omega) (by omega)) (by first | assumption | exact nA ok (by omega) (by omega) (by omega)) ?_ | refine hget_n (by first | assumption | exact Ne.symm (by assumption) | exact nA ok (by omega) (by omega) (by omega)) ?_) rfl) rfl ⟨ble rfl, ble rfl⟩ (ble rfl) dX12_ofPots_85 rfl ?_
      refine x_imul dX12_ofPots_88 ?_
      refine x_iadd dX12_ofPots_89 ?_
      refine x_istore_n (L' := [(2, _), (4, _), (3, _), (0, _), (1, _)]) dX12_ofPots_90 rfl (ble rfl) rfl ?_
      refine x_iinc (L' := [(3, _), (2, _), (4, _), (0, _), (1, _)]) (j := 2) (nI (_ + 1)) dX12_ofPots_91 rfl (nI_1 _) (ble rfl) rfl ?_
      refine x_goto 4 dX12_ofPots_94 (by decide) ?_
      refine x_locs (L' := [(3, _), (2, _), (0, _), (1, _)]) [0, 1, 3, 4] rfl ?_
      refine x_eqL ?_ ihi
      first | (simp only [sm_s, if_pos c19]; done) | (simp only [sm_s, if_neg c19]; done)
set_option maxRecDepth 100000 in
set_option maxHeartbeats 4000000 in
theorem ct_X12_filledOrders {l : Launch} {G : Gl} {h : Hp} {sv rem typ err lin why wha beh its siz att wro tol : Int32} {N : Nat → Int32} (ok : Ok G) {ns np no : Nat} (A : RowA N ns np no) : CtR l G mX12_filledOrders 8 [.ref (Ad G 20)] (mH G h (eMd G sv rem typ err lin why wha beh its siz att wro tol) N) (some (.int (sm (fun i => soldK (N (191 + 5 * i))) no))) (mH G h (eMd G sv rem typ err lin why wha beh its siz att wro tol) N) := by
  obtain ⟨a2, a3, a4, b2, b3, b4, AP, AO⟩ := A
  refine Ct.of (L := [(0, _)]) (by decide) (ble rfl) rfl ?_
  refine x_iconst (v := 0) dX12_filledOrders_0 rfl ?_
  refine x_istore_n (L' := [(1, _), (0, _)]) dX12_filledOrders_1 rfl (ble rfl) rfl ?_
  refine x_iconst (v := 0) dX12_filledOrders_2 rfl ?_
  refine x_istore_n (L' := [(2, _), (1, _), (0, _)]) dX12_filledOrders_3 rfl (ble rfl) rfl ?_
  refine x_locs (L' := [(2, _), (1, _), (0, _)]) [0, 1, 2] rfl ?_
  refine dn (P := fun i => XX l G mX12_filledOrders (Rm 8 0 0) (KQ G (Rm 8 0 0) (fun w h' => w = some (.int (sm (fun i => soldK (N (191 + 5 * i))) no)) ∧ h' = (mH G h (eMd G sv rem typ err lin why wha beh its siz att wro tol) N))) 0 0 4 [(2, .int (nI i)), (1, .int (sm (fun i => soldK (N (191 + 5 * i))) i)), (0, .ref (Ad G 20))] [] (mH G h (eMd G sv rem typ err lin why wha beh its siz att wro tol) N)) (n := no) ?_ (fun i hi ihi => ?_)
  · refine x_iload_n 0 dX12_filledOrders_4 rfl rfl ?_
    first | refine x_aload_n 2 dX12_filledOrders_5 rfl rfl ?_ | refine x_aload_nN 2 dX12_filledOrders_5 rfl rfl ?_
    refine x_get fX12_9 rfl dX12_filledOrders_6 (by with_reducible repeat first | assumption | exact mH_0 ok | exact mH_1 | exact hset_s | refine mH_o (by first | assumption | exact nA ok (by omega) (by omega) (by omega)) (by first | assumption | exact nA ok (by omega) (by omega) (by omega)) ?_ | refine hget_n (by first | assumption | exact Ne.symm (by assumption) | exact nA ok (by omega) (by omega) (by omega)) ?_) (by rfl) ?_
    refine x_iconst (v := 4) dX12_filledOrders_9 rfl ?_
    refine x_mald (i := 4) (by first | exact Eq.refl (nI _) | exact ix_p _ _ | exact ix_o _ _ | exact ix_s _ | exact ix_s1 _ _ | (rw [ix_s]; exact nI_add _ _) | exact nI_add _ 1 | exact nI_add _ 2 | exact nI_add _ 3 | exact nI_add _ 4 | (rw [ix_o0]; exact nI_add _ 3) | (rw [ix_o0]; exact nI_add _ 4) | (rw [ix_o0]; exact nI_add _ _) | (rw [ix_o0]; exact (nI_add _ 3).trans (congrArg nI (by omega))) | (rw [ix_o0]; exact (nI_add _ 4).trans (congrArg nI (by omega))) | exact (nI_add _ 1).trans (congrArg nI (by omega)) | exact (nI_add _ 2).trans (congrArg nI (by omega)) | exact (nI_add _ 3).trans (congrArg nI (by omega)) | exact (nI_add _ 4).trans (congrArg nI (by omega))) dX12_filledOrders_10 (by omega) rfl ?_
    refine x_icmp_ge 39 dX12_filledOrders_11 (by decide) (fun _ => ?_) (fun z => by first | exact absurd (by rw [a4]; exact Int32.le_refl _) z | exact absurd z (by rw [a4]; exact Int32.le_refl _))
    refine x_iload_n 1 dX12_filledOrders_39 rfl rfl ?_
    refine x_iret rfl dX12_filledOrders_40 ?_
    exact ⟨rfl, rfl⟩
  · refine x_iload_n 0 dX12_filledOrders_4 rfl rfl ?_
    first | refine x_aload_n 2 dX12_filledOrders_5 rfl rfl ?_ | refine x_aload_nN 2 dX12_filledOrders_5 rfl rfl ?_
    refine x_get fX12_9 rfl dX12_filledOrders_6 (by with_reducible repeat first | assumption | exact mH_0 ok | exact mH_1 | exact hset_s | refine mH_o (by first | assumption | exact nA ok (by omega) (by omega) (by omega)) (by first | assumption | exact nA ok (by omega) (by omega) (by omega)) ?_ | refine hget_n (by first | assumption | exact Ne.symm (by assumption) | exact nA ok (by omega) (by omega) (by omega)) ?_) (by rfl) ?_
    refine x_iconst (v := 4) dX12_filledOrders_9 rfl ?_
    refine x_mald (i := 4) (by first | exact Eq.refl (nI _) | exact ix_p _ _ | exact ix_o _ _ | exact ix_s _ | exact ix_s1 _ _ | (rw [ix_s]; exact nI_add _ _) | exact nI_add _ 1 | exact nI_add _ 2 | exact nI_add _ 3 | exact nI_add _ 4 | (rw [ix_o0]; exact nI_add _ 3) | (rw [ix_o0]; exact nI_add _ 4) | (rw [ix_o0]; exact nI_add _ _) | (rw [ix_o0]; exact (nI_add _ 3).trans (congrArg nI (by omega))) | (rw [ix_o0]; exact (nI_add _ 4).trans (congrArg nI (by omega))) | exact (nI_add _ 1).trans (congrArg nI (by omega)) | exact (nI_add _ 2).trans (congrArg nI (by omega)) | exact (nI_add _ 3).trans (congrArg nI (by omega)) | exact (nI_add _ 4).trans (congrArg nI (by omega))) dX12_filledOrders_10 (by omega) rfl ?_
    refine x_icmp_ge 39 dX12_filledOrders_11 (by decide) (fun z => by first | exact absurd z (by rw [a4]; exact nI_ge hi (by omega)) | exact absurd (by rw [a4]; exact nI_ge hi (by omega)) z) (fun _ => ?_)
    refine x_iload_n 1 dX12_filledOrders_14 rfl rfl ?_
    first | refine x_aload_n 2 dX12_filledOrders_15 rfl rfl ?_ | refine x_aload_nN 2 dX12_filledOrders_15 rfl rfl ?_
    refine x_iload_n 0 dX12_filledOrders_16 rfl rfl ?_
    refine x_iconst (v := 3) dX12_filledOrders_17 rfl ?_
    refine x_cV1 (As := [.int _, .int _]) (ct_X12_ofOrder_3 ok (by omega)) vX12_162 rfl (x_recv (by with_reducible repeat first | assumption | exact mH_0 ok | exact mH_1 | exact hset_s | refine mH_o (by first | assumption | exact nA ok (by omega) (by omega) (by omega)) (by first | assumption | exact nA ok (by omega) (by omega) (by omega)) ?_ | refine hget_n (by first | assumption | exact Ne.symm (by assumption) | exact nA ok (by omega) (by omega) (by omega)) ?_) rfl) rfl ⟨ble rfl, ble rfl⟩ (ble rfl) dX12_filledOrders_18 rfl ?_
    refine x_bipush (v := -4) dX12_filledOrders_21 rfl ?_
    refine x_icmp_ne 30 dX12_filledOrders_23 (by decide) (fun c23 => ?_) (fun c23 => ?_)
    · refine x_iconst (v := 1) dX12_filledOrders_30 rfl ?_
      refine x_iadd dX12_filledOrders_31 ?_
      refine x_istore_n (L' := [(1, _), (2, _), (0, _)]) dX12_filledOrders_32 rfl (ble rfl) rfl ?_
      refine x_iinc (L' := [(2, _), (1, _), (0, _)]) (j := 1) (nI (_ + 1)) dX12_filledOrders_33 rfl (nI_1 _) (ble rfl) rfl ?_
      refine x_goto 4 dX12_filledOrders_36 (by decide) ?_
      refine x_locs (L' := [(2, _), (1, _), (0, _)]) [0, 1, 2] rfl ?_
      refine x_eqL ?_ ihi
      simp only [sm_s, soldK]
      (repeat' split) <;> first | rfl | contradiction | (simp_all; done) | (exfalso; simp only [Int32.lt_iff_toInt_lt, Int32.le_iff_toInt_le] at *; omega)
    · refine x_iconst (v := 0) dX12_filledOrders_26 rfl ?_
      refine x_goto 31 dX12_filledOrders_27 (by decide) ?_
      refine x_iadd dX12_filledOrders_31 ?_
      refine x_istore_n (L' := [(1, _), (2, _), (0, _)]) dX12_filledOrders_32 rfl (ble rfl) rfl ?_
      refine x_iinc (L' := [(2, _), (1, _), (0, _)]) (j := 1) (nI (_ + 1)) dX12_filledOrders_33 rfl (nI_1 _) (ble rfl) rfl ?_
      refine x_goto 4 dX12_filledOrders_36 (by decide) ?_
      refine x_locs (L' := [(2, _), (1, _), (0, _)]) [0, 1, 2] rfl ?_
      refine x_eqL ?_ ihi
      simp only [sm_s, soldK]
      (repeat' split) <;> first | rfl | contradiction | (simp_all; done) | (exfalso; simp only [Int32.lt_iff_toInt_lt, Int32.le_iff_toInt_le] at *; omega)
set_option maxRecDepth 100000 in
set_option maxHeartbeats 4000000 in
theorem ct_X12_copper {l : Launch} {G : Gl} {h : Hp} {sv rem typ err lin why wha beh its siz att wro tol : Int32} {N : Nat → Int32} (ok : Ok G) {ns np no : Nat} (A : RowA N ns np no) : CtR l G mX12_copper 8 [.ref (Ad G 20)] (mH G h (eMd G sv rem typ err lin why wha beh its siz att wro tol) N) (some (.int (sm2 (fun i => kArea (kOf (N (60 + 8 * i))) * N (61 + 8 * i)) (sm (fun i => N (13 + 4 * i) * N (12 + 4 * i)) ns) np))) (mH G h (eMd G sv rem typ err lin why wha beh its siz att wro tol) N) := by
  obtain ⟨a2, a3, a4, b2, b3, b4, AP, AO⟩ := A
  refine Ct.of (L := [(0, _)]) (by decide) (ble rfl) rfl ?_
  refine x_iconst (v := 0) dX12_copper_0 rfl ?_
  refine x_istore_n (L' := [(1, _), (0, _)]) dX12_copper_1 rfl (ble rfl) rfl ?_
  refine x_iconst (v := 0) dX12_copper_2 rfl ?_
  refine x_istore_n (L' := [(2, _), (1, _), (0, _)]) dX12_copper_3 rfl (ble rfl) rfl ?_
  refine x_locs (L' := [(2, _), (1, _), (0, _)]) [0, 1, 2] rfl ?_
  refine dn (P := fun i => XX l G mX12_copper (Rm 8 0 0) (KQ G (Rm 8 0 0) (fun w h' => w = some (.int (sm2 (fun i => kArea (kOf (N (60 + 8 * i))) * N (61 + 8 * i)) (sm (fun i => N (13 + 4 * i) * N (12 + 4 * i)) ns) np)) ∧ h' = (mH G h (eMd G sv rem typ err lin why wha beh its siz att wro tol) N))) 0 0 4 [(2, .int (nI i)), (1, .int (sm (fun i => N (13 + 4 * i) * N (12 + 4 * i)) i)), (0, .ref (Ad G 20))] [] (mH G h (eMd G sv rem typ err lin why wha beh its siz att wro tol) N)) (n := ns) ?_ (fun i hi ihi => ?_)
  · refine x_iload_n 0 dX12_copper_4 rfl rfl ?_
    first | refine x_aload_n 2 dX12_copper_5 rfl rfl ?_ | refine x_aload_nN 2 dX12_copper_5 rfl rfl ?_
    refine x_get fX12_9 rfl dX12_copper_6 (by with_reducible repeat first | assumption | exact mH_0 ok | exact mH_1 | exact hset_s | refine mH_o (by first | assumption | exact nA ok (by omega) (by omega) (by omega)) (by first | assumption | exact nA ok (by omega) (by omega) (by omega)) ?_ | refine hget_n (by first | assumption | exact Ne.symm (by assumption) | exact nA ok (by omega) (by omega) (by omega)) ?_) (by rfl) ?_
    refine x_iconst (v := 2) dX12_copper_9 rfl ?_
    refine x_mald (i := 2) (by first | exact Eq.refl (nI _) | exact ix_p _ _ | exact ix_o _ _ | exact ix_s _ | exact ix_s1 _ _ | (rw [ix_s]; exact nI_add _ _) | exact nI_add _ 1 | exact nI_add _ 2 | exact nI_add _ 3 | exact nI_add _ 4 | (rw [ix_o0]; exact nI_add _ 3) | (rw [ix_o0]; exact nI_add _ 4) | (rw [ix_o0]; exact nI_add _ _) | (rw [ix_o0]; exact (nI_add _ 3).trans (congrArg nI (by omega))) | (rw [ix_o0]; exact (nI_add _ 4).trans (congrArg nI (by omega))) | exact (nI_add _ 1).trans (congrArg nI (by omega)) | exact (nI_add _ 2).trans (congrArg nI (by omega)) | exact (nI_add _ 3).trans (congrArg nI (by omega)) | exact (nI_add _ 4).trans (congrArg nI (by omega))) dX12_copper_10 (by omega) rfl ?_
    refine x_icmp_ge 48 dX12_copper_11 (by decide) (fun _ => ?_) (fun z => by first | exact absurd (by rw [a2]; exact Int32.le_refl _) z | exact absurd z (by rw [a2]; exact Int32.le_refl _))
    refine x_iconst (v := 0) dX12_copper_48 rfl ?_
    refine x_istore_n (L' := [(2, _), (1, _), (0, _)]) dX12_copper_49 rfl (ble rfl) rfl ?_
    refine x_locs (L' := [(2, _), (1, _), (0, _)]) [0, 1, 2] rfl ?_
    refine dn (P := fun i => XX l G mX12_copper (Rm 8 0 0) (KQ G (Rm 8 0 0) (fun w h' => w = some (.int (sm2 (fun i => kArea (kOf (N (60 + 8 * i))) * N (61 + 8 * i)) (sm (fun i => N (13 + 4 * i) * N (12 + 4 * i)) ns) np)) ∧ h' = (mH G h (eMd G sv rem typ err lin why wha beh its siz att wro tol) N))) 0 0 50 [(2, .int (nI i)), (1, .int (sm2 (fun i => kArea (kOf (N (60 + 8 * i))) * N (61 + 8 * i)) (sm (fun i => N (13 + 4 * i) * N (12 + 4 * i)) ns) i)), (0, .ref (Ad G 20))] [] (mH G h (eMd G sv rem typ err lin why wha beh its siz att wro tol) N)) (n := np) ?_ (fun i hi ihi => ?_)
    · refine x_iload_n 0 dX12_copper_50 rfl rfl ?_
      first | refine x_aload_n 2 dX12_copper_51 rfl rfl ?_ | refine x_aload_nN 2 dX12_copper_51 rfl rfl ?_
      refine x_get fX12_9 rfl dX12_copper_52 (by with_reducible repeat first | assumption | exact mH_0 ok | exact mH_1 | exact hset_s | refine mH_o (by first | assumption | exact nA ok (by omega) (by omega) (by omega)) (by first | assumption | exact nA ok (by omega) (by omega) (by omega)) ?_ | refine hget_n (by first | assumption | exact Ne.symm (by assumption) | exact nA ok (by omega) (by omega) (by omega)) ?_) (by rfl) ?_
      refine x_iconst (v := 3) dX12_copper_55 rfl ?_
      refine x_mald (i := 3) (by first | exact Eq.refl (nI _) | exact ix_p _ _ | exact ix_o _ _ | exact ix_s _ | exact ix_s1 _ _ | (rw [ix_s]; exact nI_add _ _) | exact nI_add _ 1 | exact nI_add _ 2 | exact nI_add _ 3 | exact nI_add _ 4 | (rw [ix_o0]; exact nI_add _ 3) | (rw [ix_o0]; exact nI_add _ 4) | (rw [ix_o0]; exact nI_add _ _) | (rw [ix_o0]; exact (nI_add _ 3).trans (congrArg nI (by omega))) | (rw [ix_o0]; exact (nI_add _ 4).trans (congrArg nI (by omega))) | exact (nI_add _ 1).trans (congrArg nI (by omega)) | exact (nI_add _ 2).trans (congrArg nI (by omega)) | exact (nI_add _ 3).trans (congrArg nI (by omega)) | exact (nI_add _ 4).trans (congrArg nI (by omega))) dX12_copper_56 (by omega) rfl ?_
      refine x_icmp_ge 85 dX12_copper_57 (by decide) (fun _ => ?_) (fun z => by first | exact absurd (by rw [a3]; exact Int32.le_refl _) z | exact absurd z (by rw [a3]; exact Int32.le_refl _))
      refine x_iload_n 1 dX12_copper_85 rfl rfl ?_
      refine x_iret rfl dX12_copper_86 ?_
      exact ⟨rfl, rfl⟩
    · have hK := (AP i hi).1
      refine x_iload_n 0 dX12_copper_50 rfl rfl ?_
      first | refine x_aload_n 2 dX12_copper_51 rfl rfl ?_ | refine x_aload_nN 2 dX12_copper_51 rfl rfl ?_
      refine x_get fX12_9 rfl dX12_copper_52 (by with_reducible repeat first | assumption | exact mH_0 ok | exact mH_1 | exact hset_s | refine mH_o (by first | assumption | exact nA ok (by omega) (by omega) (by omega)) (by first | assumption | exact nA ok (by omega) (by omega) (by omega)) ?_ | refine hget_n (by first | assumption | exact Ne.symm (by assumption) | exact nA ok (by omega) (by omega) (by omega)) ?_) (by rfl) ?_
      refine x_iconst (v := 3) dX12_copper_55 rfl ?_
      refine x_mald (i := 3) (by first | exact Eq.refl (nI _) | exact ix_p _ _ | exact ix_o _ _ | exact ix_s _ | exact ix_s1 _ _ | (rw [ix_s]; exact nI_add _ _) | exact nI_add _ 1 | exact nI_add _ 2 | exact nI_add _ 3 | exact nI_add _ 4 | (rw [ix_o0]; exact nI_add _ 3) | (rw [ix_o0]; exact nI_add _ 4) | (rw [ix_o0]; exact nI_add _ _) | (rw [ix_o0]; exact (nI_add _ 3).trans (congrArg nI (by omega))) | (rw [ix_o0]; exact (nI_add _ 4).trans (congrArg nI (by omega))) | exact (nI_add _ 1).trans (congrArg nI (by omega)) | exact (nI_add _ 2).trans (congrArg nI (by omega)) | exact (nI_add _ 3).trans (congrArg nI (by omega)) | exact (nI_add _ 4).trans (congrArg nI (by omega))) dX12_copper_56 (by omega) rfl ?_
      refine x_icmp_ge 85 dX12_copper_57 (by decide) (fun z => by first | exact absurd z (by rw [a3]; exact nI_ge hi (by omega)) | exact absurd (by rw [a3]; exact nI_ge hi (by omega)) z) (fun _ => ?_)
      refine x_iload_n 1 dX12_copper_60 rfl rfl ?_
      first | refine x_aload_n 2 dX12_copper_61 rfl rfl ?_ | refine x_aload_nN 2 dX12_copper_61 rfl rfl ?_
      refine x_iload_n 0 dX12_copper_62 rfl rfl ?_
      refine x_iconst (v := 1) dX12_copper_63 rfl ?_
      refine x_cV1 (As := [.int _, .int _]) (ct_X12_of_1 ok (by omega)) vX12_101 rfl (x_recv (by with_reducible repeat first | assumption | exact mH_0 ok | exact mH_1 | exact hset_s | refine mH_o (by first | assumption | exact nA ok (by omega) (by omega) (by omega)) (by first | assumption | exact nA ok (by omega) (by omega) (by omega)) ?_ | refine hget_n (by first | assumption | exact Ne.symm (by assumption) | exact nA ok (by omega) (by omega) (by omega)) ?_) rfl) rfl ⟨ble rfl, ble rfl⟩ (ble rfl) dX12_copper_64 rfl ?_
      first | refine x_aload_n 2 dX12_copper_67 rfl rfl ?_ | refine x_aload_nN 2 dX12_copper_67 rfl rfl ?_
      refine x_iload_n 0 dX12_copper_68 rfl rfl ?_
      refine x_iconst (v := 0) dX12_copper_69 rfl ?_
      refine x_cV1 (As := [.int _, .int _]) (ct_X12_of_0 ok (by omega)) vX12_101 rfl (x_recv (by with_reducible repeat first | assumption | exact mH_0 ok | exact mH_1 | exact hset_s | refine mH_o (by first | assumption | exact nA ok (by omega) (by omega) (by omega)) (by first | assumption | exact nA ok (by omega) (by omega) (by omega)) ?_ | refine hget_n (by first | assumption | exact Ne.symm (by assumption) | exact nA ok (by omega) (by omega) (by omega)) ?_) rfl) rfl ⟨ble rfl, ble rfl⟩ (ble rfl) dX12_copper_70 rfl ?_
      refine x_cS1 (As := [.int _]) (ct_X12_areaOf (by assumption)) vX12_105 rfl rfl ⟨ble rfl, ble rfl⟩ (ble rfl) dX12_copper_73 rfl ?_
      refine x_imul dX12_copper_76 ?_
      refine x_iadd dX12_copper_77 ?_
      refine x_istore_n (L' := [(1, _), (2, _), (0, _)]) dX12_copper_78 rfl (ble rfl) rfl ?_
      refine x_iinc (L' := [(2, _), (1, _), (0, _)]) (j := 1) (nI (_ + 1)) dX12_copper_79 rfl (nI_1 _) (ble rfl) rfl ?_
      refine x_goto 50 dX12_copper_82 (by decide) ?_
      refine x_locs (L' := [(2, _), (1, _), (0, _)]) [0, 1, 2] rfl ?_
      refine x_eqL ?_ ihi
      rw [show sm2 (fun i => kArea (kOf (N (60 + 8 * i))) * N (61 + 8 * i)) (sm (fun i => N (13 + 4 * i) * N (12 + 4 * i)) ns) (i + 1) = sm2 (fun i => kArea (kOf (N (60 + 8 * i))) * N (61 + 8 * i)) (sm (fun i => N (13 + 4 * i) * N (12 + 4 * i)) ns) i + kArea (kOf (N (60 + 8 * i))) * N (61 + 8 * i) from rfl, Int32.mul_comm]
  · refine x_iload_n 0 dX12_copper_4 rfl rfl ?_
    first | refine x_aload_n 2 dX12_copper_5 rfl rfl ?_ | refine x_aload_nN 2 dX12_copper_5 rfl rfl ?_
    refine x_get fX12_9 rfl dX12_copper_6 (by with_reducible repeat first | assumption | exact mH_0 ok | exact mH_1 | exact hset_s | refine mH_o (by first | assumption | exact nA ok (by omega) (by omega) (by omega)) (by first | assumption | exact nA ok (by omega) (by omega) (by omega)) ?_ | refine hget_n (by first | assumption | exact Ne.symm (by assumption) | exact nA ok (by omega) (by omega) (by omega)) ?_) (by rfl) ?_
    refine x_iconst (v := 2) dX12_copper_9 rfl ?_
    refine x_mald (i := 2) (by first | exact Eq.refl (nI _) | exact ix_p _ _ | exact ix_o _ _ | exact ix_s _ | exact ix_s1 _ _ | (rw [ix_s]; exact nI_add _ _) | exact nI_add _ 1 | exact nI_add _ 2 | exact nI_add _ 3 | exact nI_add _ 4 | (rw [ix_o0]; exact nI_add _ 3) | (rw [ix_o0]; exact nI_add _ 4) | (rw [ix_o0]; exact nI_add _ _) | (rw [ix_o0]; exact (nI_add _ 3).trans (congrArg nI (by omega))) | (rw [ix_o0]; exact (nI_add _ 4).trans (congrArg nI (by omega))) | exact (nI_add _ 1).trans (congrArg nI (by omega)) | exact (nI_add _ 2).trans (congrArg nI (by omega)) | exact (nI_add _ 3).trans (congrArg nI (by omega)) | exact (nI_add _ 4).trans (congrArg nI (by omega))) dX12_copper_10 (by omega) rfl ?_
    refine x_icmp_ge 48 dX12_copper_11 (by decide) (fun z => by first | exact absurd z (by rw [a2]; exact nI_ge hi (by omega)) | exact absurd (by rw [a2]; exact nI_ge hi (by omega)) z) (fun _ => ?_)
    refine x_iload_n 1 dX12_copper_14 rfl rfl ?_
    first | refine x_aload_n 2 dX12_copper_15 rfl rfl ?_ | refine x_aload_nN 2 dX12_copper_15 rfl rfl ?_
    refine x_get fX12_9 rfl dX12_copper_16 (by with_reducible repeat first | assumption | exact mH_0 ok | exact mH_1 | exact hset_s | refine mH_o (by first | assumption | exact nA ok (by omega) (by omega) (by omega)) (by first | assumption | exact nA ok (by omega) (by omega) (by omega)) ?_ | refine hget_n (by first | assumption | exact Ne.symm (by assumption) | exact nA ok (by omega) (by omega) (by omega)) ?_) (by rfl) ?_
    refine x_bipush (v := 12) dX12_copper_19 rfl ?_
    refine x_iconst (v := 4) dX12_copper_21 rfl ?_
    refine x_iload_n 0 dX12_copper_22 rfl rfl ?_
    refine x_imul dX12_copper_23 ?_
    refine x_iadd dX12_copper_24 ?_
    refine x_mald (i := 12 + 4 * i) (v := N (12 + 4 * i)) (by first | exact Eq.refl (nI _) | exact ix_p _ _ | exact ix_o _ _ | exact ix_s _ | exact ix_s1 _ _ | (rw [ix_s]; exact nI_add _ _) | exact nI_add _ 1 | exact nI_add _ 2 | exact nI_add _ 3 | exact nI_add _ 4 | (rw [ix_o0]; exact nI_add _ 3) | (rw [ix_o0]; exact nI_add _ 4) | (rw [ix_o0]; exact nI_add _ _) | (rw [ix_o0]; exact (nI_add _ 3).trans (congrArg nI (by omega))) | (rw [ix_o0]; exact (nI_add _ 4).trans (congrArg nI (by omega))) | exact (nI_add _ 1).trans (congrArg nI (by omega)) | exact (nI_add _ 2).trans (congrArg nI (by omega)) | exact (nI_add _ 3).trans (congrArg nI (by omega)) | exact (nI_add _ 4).trans (congrArg nI (by omega))) dX12_copper_25 (by omega) (rfl) ?_
    first | refine x_aload_n 2 dX12_copper_26 rfl rfl ?_ | refine x_aload_nN 2 dX12_copper_26 rfl rfl ?_
    refine x_get fX12_9 rfl dX12_copper_27 (by with_reducible repeat first | assumption | exact mH_0 ok | exact mH_1 | exact hset_s | refine mH_o (by first | assumption | exact nA ok (by omega) (by omega) (by omega)) (by first | assumption | exact nA ok (by omega) (by omega) (by omega)) ?_ | refine hget_n (by first | assumption | exact Ne.symm (by assumption) | exact nA ok (by omega) (by omega) (by omega)) ?_) (by rfl) ?_
    refine x_bipush (v := 12) dX12_copper_30 rfl ?_
    refine x_iconst (v := 4) dX12_copper_32 rfl ?_
    refine x_iload_n 0 dX12_copper_33 rfl rfl ?_
    refine x_imul dX12_copper_34 ?_
    refine x_iadd dX12_copper_35 ?_
    refine x_iconst (v := 1) dX12_copper_36 rfl ?_
    refine x_iadd dX12_copper_37 ?_
    refine x_mald (i := 12 + 4 * i + 1) (v := N (13 + 4 * i)) (by first | exact Eq.refl (nI _) | exact ix_p _ _ | exact ix_o _ _ | exact ix_s _ | exact ix_s1 _ _ | (rw [ix_s]; exact nI_add _ _) | exact nI_add _ 1 | exact nI_add _ 2 | exact nI_add _ 3 | exact nI_add _ 4 | (rw [ix_o0]; exact nI_add _ 3) | (rw [ix_o0]; exact nI_add _ 4) | (rw [ix_o0]; exact nI_add _ _) | (rw [ix_o0]; exact (nI_add _ 3).trans (congrArg nI (by omega))) | (rw [ix_o0]; exact (nI_add _ 4).trans (congrArg nI (by omega))) | exact (nI_add _ 1).trans (congrArg nI (by omega)) | exact (nI_add _ 2).trans (congrArg nI (by omega)) | exact (nI_add _ 3).trans (congrArg nI (by omega)) | exact (nI_add _ 4).trans (congrArg nI (by omega))) dX12_copper_38 (by omega) (congrArg N (by omega)) ?_
    refine x_imul dX12_copper_39 ?_
    refine x_iadd dX12_copper_40 ?_
    refine x_istore_n (L' := [(1, _), (2, _), (0, _)]) dX12_copper_41 rfl (ble rfl) rfl ?_
    refine x_iinc (L' := [(2, _), (1, _), (0, _)]) (j := 1) (nI (_ + 1)) dX12_copper_42 rfl (nI_1 _) (ble rfl) rfl ?_
    refine x_goto 4 dX12_copper_45 (by decide) ?_
    refine x_locs (L' := [(2, _), (1, _), (0, _)]) [0, 1, 2] rfl ?_
    refine x_eqL ?_ ihi
    rw [sm_s, Int32.mul_comm]
set_option maxRecDepth 100000 in
set_option maxHeartbeats 4000000 in
theorem ct_X12_copperAgain {l : Launch} {G : Gl} {h : Hp} {sv rem typ err lin why wha beh its siz att wro tol : Int32} {N : Nat → Int32} (ok : Ok G) {ns np no : Nat} (A : RowA N ns np no) : CtR l G mX12_copperAgain 8 [.ref (Ad G 20)] (mH G h (eMd G sv rem typ err lin why wha beh its siz att wro tol) N) (some (.int (sm (fun i => N (15 + 4 * i) * N (12 + 4 * i)) ns))) (mH G h (eMd G sv rem typ err lin why wha beh its siz att wro tol) N) := by
  obtain ⟨a2, a3, a4, b2, b3, b4, AP, AO⟩ := A
  refine Ct.of (L := [(0, _)]) (by decide) (ble rfl) rfl ?_
  refine x_iconst (v := 0) dX12_copperAgain_0 rfl ?_
  refine x_istore_n (L' := [(1, _), (0, _)]) dX12_copperAgain_1 rfl (ble rfl) rfl ?_
  refine x_iconst (v := 0) dX12_copperAgain_2 rfl ?_
  refine x_istore_n (L' := [(2, _), (1, _), (0, _)]) dX12_copperAgain_3 rfl (ble rfl) rfl ?_
  refine x_locs (L' := [(2, _), (1, _), (0, _)]) [0, 1, 2] rfl ?_
  refine dn (P := fun i => XX l G mX12_copperAgain (Rm 8 0 0) (KQ G (Rm 8 0 0) (fun w h' => w = some (.int (sm (fun i => N (15 + 4 * i) * N (12 + 4 * i)) ns)) ∧ h' = (mH G h (eMd G sv rem typ err lin why wha beh its siz att wro tol) N))) 0 0 4 [(2, .int (nI i)), (1, .int (sm (fun i => N (15 + 4 * i) * N (12 + 4 * i)) i)), (0, .ref (Ad G 20))] [] (mH G h (eMd G sv rem typ err lin why wha beh its siz att wro tol) N)) (n := ns) ?_ (fun i hi ihi => ?_)
  · refine x_iload_n 0 dX12_copperAgain_4 rfl rfl ?_
    first | refine x_aload_n 2 dX12_copperAgain_5 rfl rfl ?_ | refine x_aload_nN 2 dX12_copperAgain_5 rfl rfl ?_
    refine x_get fX12_9 rfl dX12_copperAgain_6 (by with_reducible repeat first | assumption | exact mH_0 ok | exact mH_1 | exact hset_s | refine mH_o (by first | assumption | exact nA ok (by omega) (by omega) (by omega)) (by first | assumption | exact nA ok (by omega) (by omega) (by omega)) ?_ | refine hget_n (by first | assumption | exact Ne.symm (by assumption) | exact nA ok (by omega) (by omega) (by omega)) ?_) (by rfl) ?_
    refine x_iconst (v := 2) dX12_copperAgain_9 rfl ?_
    refine x_mald (i := 2) (by first | exact Eq.refl (nI _) | exact ix_p _ _ | exact ix_o _ _ | exact ix_s _ | exact ix_s1 _ _ | (rw [ix_s]; exact nI_add _ _) | exact nI_add _ 1 | exact nI_add _ 2 | exact nI_add _ 3 | exact nI_add _ 4 | (rw [ix_o0]; exact nI_add _ 3) | (rw [ix_o0]; exact nI_add _ 4) | (rw [ix_o0]; exact nI_add _ _) | (rw [ix_o0]; exact (nI_add _ 3).trans (congrArg nI (by omega))) | (rw [ix_o0]; exact (nI_add _ 4).trans (congrArg nI (by omega))) | exact (nI_add _ 1).trans (congrArg nI (by omega)) | exact (nI_add _ 2).trans (congrArg nI (by omega)) | exact (nI_add _ 3).trans (congrArg nI (by omega)) | exact (nI_add _ 4).trans (congrArg nI (by omega))) dX12_copperAgain_10 (by omega) rfl ?_
    refine x_icmp_ge 48 dX12_copperAgain_11 (by decide) (fun _ => ?_) (fun z => by first | exact absurd (by rw [a2]; exact Int32.le_refl _) z | exact absurd z (by rw [a2]; exact Int32.le_refl _))
    refine x_iload_n 1 dX12_copperAgain_48 rfl rfl ?_
    refine x_iret rfl dX12_copperAgain_49 ?_
    exact ⟨rfl, rfl⟩
  · refine x_iload_n 0 dX12_copperAgain_4 rfl rfl ?_
    first | refine x_aload_n 2 dX12_copperAgain_5 rfl rfl ?_ | refine x_aload_nN 2 dX12_copperAgain_5 rfl rfl ?_
    refine x_get fX12_9 rfl dX12_copperAgain_6 (by with_reducible repeat first | assumption | exact mH_0 ok | exact mH_1 | exact hset_s | refine mH_o (by first | assumption | exact nA ok (by omega) (by omega) (by omega)) (by first | assumption | exact nA ok (by omega) (by omega) (by omega)) ?_ | refine hget_n (by first | assumption | exact Ne.symm (by assumption) | exact nA ok (by omega) (by omega) (by omega)) ?_) (by rfl) ?_
    refine x_iconst (v := 2) dX12_copperAgain_9 rfl ?_
    refine x_mald (i := 2) (by first | exact Eq.refl (nI _) | exact ix_p _ _ | exact ix_o _ _ | exact ix_s _ | exact ix_s1 _ _ | (rw [ix_s]; exact nI_add _ _) | exact nI_add _ 1 | exact nI_add _ 2 | exact nI_add _ 3 | exact nI_add _ 4 | (rw [ix_o0]; exact nI_add _ 3) | (rw [ix_o0]; exact nI_add _ 4) | (rw [ix_o0]; exact nI_add _ _) | (rw [ix_o0]; exact (nI_add _ 3).trans (congrArg nI (by omega))) | (rw [ix_o0]; exact (nI_add _ 4).trans (congrArg nI (by omega))) | exact (nI_add _ 1).trans (congrArg nI (by omega)) | exact (nI_add _ 2).trans (congrArg nI (by omega)) | exact (nI_add _ 3).trans (congrArg nI (by omega)) | exact (nI_add _ 4).trans (congrArg nI (by omega))) dX12_copperAgain_10 (by omega) rfl ?_
    refine x_icmp_ge 48 dX12_copperAgain_11 (by decide) (fun z => by first | exact absurd z (by rw [a2]; exact nI_ge hi (by omega)) | exact absurd (by rw [a2]; exact nI_ge hi (by omega)) z) (fun _ => ?_)
    refine x_iload_n 1 dX12_copperAgain_14 rfl rfl ?_
    first | refine x_aload_n 2 dX12_copperAgain_15 rfl rfl ?_ | refine x_aload_nN 2 dX12_copperAgain_15 rfl rfl ?_
    refine x_get fX12_9 rfl dX12_copperAgain_16 (by with_reducible repeat first | assumption | exact mH_0 ok | exact mH_1 | exact hset_s | refine mH_o (by first | assumption | exact nA ok (by omega) (by omega) (by omega)) (by first | assumption | exact nA ok (by omega) (by omega) (by omega)) ?_ | refine hget_n (by first | assumption | exact Ne.symm (by assumption) | exact nA ok (by omega) (by omega) (by omega)) ?_) (by rfl) ?_
    refine x_bipush (v := 12) dX12_copperAgain_19 rfl ?_
    refine x_iconst (v := 4) dX12_copperAgain_21 rfl ?_
    refine x_iload_n 0 dX12_copperAgain_22 rfl rfl ?_
    refine x_imul dX12_copperAgain_23 ?_
    refine x_iadd dX12_copperAgain_24 ?_
    refine x_mald (i := 12 + 4 * i) (v := N (12 + 4 * i)) (by first | exact Eq.refl (nI _) | exact ix_p _ _ | exact ix_o _ _ | exact ix_s _ | exact ix_s1 _ _ | (rw [ix_s]; exact nI_add _ _) | exact nI_add _ 1 | exact nI_add _ 2 | exact nI_add _ 3 | exact nI_add _ 4 | (rw [ix_o0]; exact nI_add _ 3) | (rw [ix_o0]; exact nI_add _ 4) | (rw [ix_o0]; exact nI_add _ _) | (rw [ix_o0]; exact (nI_add _ 3).trans (congrArg nI (by omega))) | (rw [ix_o0]; exact (nI_add _ 4).trans (congrArg nI (by omega))) | exact (nI_add _ 1).trans (congrArg nI (by omega)) | exact (nI_add _ 2).trans (congrArg nI (by omega)) | exact (nI_add _ 3).trans (congrArg nI (by omega)) | exact (nI_add _ 4).trans (congrArg nI (by omega))) dX12_copperAgain_25 (by omega) (rfl) ?_
    first | refine x_aload_n 2 dX12_copperAgain_26 rfl rfl ?_ | refine x_aload_nN 2 dX12_copperAgain_26 rfl rfl ?_
    refine x_get fX12_9 rfl dX12_copperAgain_27 (by with_reducible repeat first | assumption | exact mH_0 ok | exact mH_1 | exact hset_s | refine mH_o (by first | assumption | exact nA ok (by omega) (by omega) (by omega)) (by first | assumption | exact nA ok (by omega) (by omega) (by omega)) ?_ | refine hget_n (by first | assumption | exact Ne.symm (by assumption) | exact nA ok (by omega) (by omega) (by omega)) ?_) (by rfl) ?_
    refine x_bipush (v := 12) dX12_copperAgain_30 rfl ?_
    refine x_iconst (v := 4) dX12_copperAgain_32 rfl ?_
    refine x_iload_n 0 dX12_copperAgain_33 rfl rfl ?_
    refine x_imul dX12_copperAgain_34 ?_
    refine x_iadd dX12_copperAgain_35 ?_
    refine x_iconst (v := 3) dX12_copperAgain_36 rfl ?_
    refine x_iadd dX12_copperAgain_37 ?_
    refine x_mald (i := 12 + 4 * i + 3) (v := N (15 + 4 * i)) (by first | exact Eq.refl (nI _) | exact ix_p _ _ | exact ix_o _ _ | exact ix_s _ | exact ix_s1 _ _ | (rw [ix_s]; exact nI_add _ _) | exact nI_add _ 1 | exact nI_add _ 2 | exact nI_add _ 3 | exact nI_add _ 4 | (rw [ix_o0]; exact nI_add _ 3) | (rw [ix_o0]; exact nI_add _ 4) | (rw [ix_o0]; exact nI_add _ _) | (rw [ix_o0]; exact (nI_add _ 3).trans (congrArg nI (by omega))) | (rw [ix_o0]; exact (nI_add _ 4).trans (congrArg nI (by omega))) | exact (nI_add _ 1).trans (congrArg nI (by omega)) | exact (nI_add _ 2).trans (congrArg nI (by omega)) | exact (nI_add _ 3).trans (congrArg nI (by omega)) | exact (nI_add _ 4).trans (congrArg nI (by omega))) dX12_copperAgain_38 (by omega) (congrArg N (by omega)) ?_
    refine x_imul dX12_copperAgain_39 ?_
    refine x_iadd dX12_copperAgain_40 ?_
    refine x_istore_n (L' := [(1, _), (2, _), (0, _)]) dX12_copperAgain_41 rfl (ble rfl) rfl ?_
    refine x_iinc (L' := [(2, _), (1, _), (0, _)]) (j := 1) (nI (_ + 1)) dX12_copperAgain_42 rfl (nI_1 _) (ble rfl) rfl ?_
    refine x_goto 4 dX12_copperAgain_45 (by decide) ?_
    refine x_locs (L' := [(2, _), (1, _), (0, _)]) [0, 1, 2] rfl ?_
    refine x_eqL ?_ ihi
    rw [sm_s, Int32.mul_comm]
set_option maxRecDepth 100000 in
set_option maxHeartbeats 4000000 in
theorem ct_isAlike_ii {l : Launch} {G : Gl} {h : Hp} {sv rem typ err lin why wha beh its siz att wro tol : Int32} {N : Nat → Int32} (ok : Ok G) {ns np no : Nat} (A : RowA N ns np no) {i j : Nat} (hi : i < np) (hj : j < np) : CtR l G mX12_isAlike 8 [.ref (Ad G 20), .int (nI i), .int (nI j)] (mH G h (eMd G sv rem typ err lin why wha beh its siz att wro tol) N) (some (.int (alK (ringK (kOf (N (60 + 8 * i))) (N (61 + 8 * i)) (N (62 + 8 * i)) (N (63 + 8 * i))) (ringK (kOf (N (60 + 8 * j))) (N (61 + 8 * j)) (N (62 + 8 * j)) (N (63 + 8 * j)))))) (mH G h (eMd G sv rem typ err lin why wha beh its siz att wro tol) N) := by
  obtain ⟨a2, a3, a4, b2, b3, b4, AP, AO⟩ := A
  have P := AP i hi
  have P2 := AP j hj
  refine Ct.of (L := [(0, _), (1, _), (2, _)]) (by decide) (ble rfl) rfl ?_
  first | refine x_aload_n 0 dX12_isAlike_0 rfl rfl ?_ | refine x_aload_nN 0 dX12_isAlike_0 rfl rfl ?_
  refine x_iload_n 1 dX12_isAlike_1 rfl rfl ?_
  refine x_cV1 (As := [.int _]) (ct_isPot_in ok a3 b3 hi) vX12_129 rfl (x_recv (by with_reducible repeat first | assumption | exact mH_0 ok | exact mH_1 | exact hset_s | refine mH_o (by first | assumption | exact nA ok (by omega) (by omega) (by omega)) (by first | assumption | exact nA ok (by omega) (by omega) (by omega)) ?_ | refine hget_n (by first | assumption | exact Ne.symm (by assumption) | exact nA ok (by omega) (by omega) (by omega)) ?_) rfl) rfl ⟨ble rfl, ble rfl⟩ (ble rfl) dX12_isAlike_2 rfl ?_
  refine x_if_eq 38 dX12_isAlike_5 (by decide) (fun z => by first | exact absurd z (show ¬ (1 : Int32) = 0 by decide) | exact absurd (show ¬ (1 : Int32) = 0 by decide) z) (fun _ => ?_)
  first | refine x_aload_n 0 dX12_isAlike_8 rfl rfl ?_ | refine x_aload_nN 0 dX12_isAlike_8 rfl rfl ?_
  refine x_iload_n 2 dX12_isAlike_9 rfl rfl ?_
  refine x_cV1 (As := [.int _]) (ct_isPot_in ok a3 b3 hj) vX12_129 rfl (x_recv (by with_reducible repeat first | assumption | exact mH_0 ok | exact mH_1 | exact hset_s | refine mH_o (by first | assumption | exact nA ok (by omega) (by omega) (by omega)) (by first | assumption | exact nA ok (by omega) (by omega) (by omega)) ?_ | refine hget_n (by first | assumption | exact Ne.symm (by assumption) | exact nA ok (by omega) (by omega) (by omega)) ?_) rfl) rfl ⟨ble rfl, ble rfl⟩ (ble rfl) dX12_isAlike_10 rfl ?_
  refine x_if_eq 38 dX12_isAlike_13 (by decide) (fun z => by first | exact absurd z (show ¬ (1 : Int32) = 0 by decide) | exact absurd (show ¬ (1 : Int32) = 0 by decide) z) (fun _ => ?_)
  first | refine x_aload_n 0 dX12_isAlike_16 rfl rfl ?_ | refine x_aload_nN 0 dX12_isAlike_16 rfl rfl ?_
  refine x_iload_n 1 dX12_isAlike_17 rfl rfl ?_
  refine x_cV1 (As := [.int _]) (ct_X12_soundOf ok (by omega) P) vX12_194 rfl (x_recv (by with_reducible repeat first | assumption | exact mH_0 ok | exact mH_1 | exact hset_s | refine mH_o (by first | assumption | exact nA ok (by omega) (by omega) (by omega)) (by first | assumption | exact nA ok (by omega) (by omega) (by omega)) ?_ | refine hget_n (by first | assumption | exact Ne.symm (by assumption) | exact nA ok (by omega) (by omega) (by omega)) ?_) rfl) rfl ⟨ble rfl, ble rfl⟩ (ble rfl) dX12_isAlike_18 rfl ?_
  first | refine x_aload_n 0 dX12_isAlike_21 rfl rfl ?_ | refine x_aload_nN 0 dX12_isAlike_21 rfl rfl ?_
  refine x_iload_n 2 dX12_isAlike_22 rfl rfl ?_
  refine x_cV1 (As := [.int _]) (ct_X12_soundOf ok (by omega) P2) vX12_194 rfl (x_recv (by with_reducible repeat first | assumption | exact mH_0 ok | exact mH_1 | exact hset_s | refine mH_o (by first | assumption | exact nA ok (by omega) (by omega) (by omega)) (by first | assumption | exact nA ok (by omega) (by omega) (by omega)) ?_ | refine hget_n (by first | assumption | exact Ne.symm (by assumption) | exact nA ok (by omega) (by omega) (by omega)) ?_) rfl) rfl ⟨ble rfl, ble rfl⟩ (ble rfl) dX12_isAlike_23 rfl ?_
  refine x_isub dX12_isAlike_26 ?_
  refine x_mabs rfl wX12_200 wMabs2 wMath3 wMabs4 (ble rfl) (ble rfl) dX12_isAlike_27 ?_
  refine x_iconst (v := 2) dX12_isAlike_30 rfl ?_
  refine x_icmp_gt 38 dX12_isAlike_31 (by decide) (fun c31 => ?_) (fun c31 => ?_)
  · refine x_iconst (v := 0) dX12_isAlike_38 rfl ?_
    refine x_zret rfl (by first | rfl | (split <;> rfl) | (unfold b2i; split <;> rfl)) dX12_isAlike_39 ?_
    refine ⟨congrArg (fun z => some (Value.int z)) ?_, rfl⟩
    first | exact (if_pos (Int32.not_lt.mp (by assumption))).symm | exact (if_neg (Int32.not_le.mpr (by assumption))).symm
  · refine x_iconst (v := 1) dX12_isAlike_34 rfl ?_
    refine x_goto 39 dX12_isAlike_35 (by decide) ?_
    refine x_zret rfl (by first | rfl | (split <;> rfl) | (unfold b2i; split <;> rfl)) dX12_isAlike_39 ?_
    refine ⟨congrArg (fun z => some (Value.int z)) ?_, rfl⟩
    first | exact (if_pos (Int32.not_lt.mp (by assumption))).symm | exact (if_neg (Int32.not_le.mpr (by assumption))).symm
set_option maxRecDepth 100000 in
set_option maxHeartbeats 4000000 in
theorem ct_isAlike_io {l : Launch} {G : Gl} {h : Hp} {sv rem typ err lin why wha beh its siz att wro tol : Int32} {N : Nat → Int32} (ok : Ok G) {ns np no : Nat} (A : RowA N ns np no) {i : Nat} (hi : i < np) (y : Int32) (hy : ¬ (0 ≤ y ∧ y < N 3)) : CtR l G mX12_isAlike 8 [.ref (Ad G 20), .int (nI i), .int y] (mH G h (eMd G sv rem typ err lin why wha beh its siz att wro tol) N) (some (.int 0)) (mH G h (eMd G sv rem typ err lin why wha beh its siz att wro tol) N) := by
  obtain ⟨a2, a3, a4, b2, b3, b4, AP, AO⟩ := A
  refine Ct.of (L := [(0, _), (1, _), (2, _)]) (by decide) (ble rfl) rfl ?_
  first | refine x_aload_n 0 dX12_isAlike_0 rfl rfl ?_ | refine x_aload_nN 0 dX12_isAlike_0 rfl rfl ?_
  refine x_iload_n 1 dX12_isAlike_1 rfl rfl ?_
  refine x_cV1 (As := [.int _]) (ct_isPot_in ok a3 b3 hi) vX12_129 rfl (x_recv (by with_reducible repeat first | assumption | exact mH_0 ok | exact mH_1 | exact hset_s | refine mH_o (by first | assumption | exact nA ok (by omega) (by omega) (by omega)) (by first | assumption | exact nA ok (by omega) (by omega) (by omega)) ?_ | refine hget_n (by first | assumption | exact Ne.symm (by assumption) | exact nA ok (by omega) (by omega) (by omega)) ?_) rfl) rfl ⟨ble rfl, ble rfl⟩ (ble rfl) dX12_isAlike_2 rfl ?_
  refine x_if_eq 38 dX12_isAlike_5 (by decide) (fun z => by first | exact absurd z (show ¬ (1 : Int32) = 0 by decide) | exact absurd (show ¬ (1 : Int32) = 0 by decide) z) (fun _ => ?_)
  first | refine x_aload_n 0 dX12_isAlike_8 rfl rfl ?_ | refine x_aload_nN 0 dX12_isAlike_8 rfl rfl ?_
  refine x_iload_n 2 dX12_isAlike_9 rfl rfl ?_
  refine x_cV1 (As := [.int _]) (ct_isPot_out ok a3 b3 hy) vX12_129 rfl (x_recv (by with_reducible repeat first | assumption | exact mH_0 ok | exact mH_1 | exact hset_s | refine mH_o (by first | assumption | exact nA ok (by omega) (by omega) (by omega)) (by first | assumption | exact nA ok (by omega) (by omega) (by omega)) ?_ | refine hget_n (by first | assumption | exact Ne.symm (by assumption) | exact nA ok (by omega) (by omega) (by omega)) ?_) rfl) rfl ⟨ble rfl, ble rfl⟩ (ble rfl) dX12_isAlike_10 rfl ?_
  refine x_if_eq 38 dX12_isAlike_13 (by decide) (fun _ => ?_) (fun z => by first | exact absurd (rfl) z | exact absurd z (rfl))
  refine x_iconst (v := 0) dX12_isAlike_38 rfl ?_
  refine x_zret rfl (by first | rfl | (split <;> rfl) | (unfold b2i; split <;> rfl)) dX12_isAlike_39 ?_
  exact ⟨rfl, rfl⟩
set_option maxRecDepth 100000 in
set_option maxHeartbeats 4000000 in
theorem ct_isAlike_o {l : Launch} {G : Gl} {h : Hp} {sv rem typ err lin why wha beh its siz att wro tol : Int32} {N : Nat → Int32} (ok : Ok G) {ns np no : Nat} (A : RowA N ns np no) (x y : Int32) (hx : ¬ (0 ≤ x ∧ x < N 3)) : CtR l G mX12_isAlike 8 [.ref (Ad G 20), .int x, .int y] (mH G h (eMd G sv rem typ err lin why wha beh its siz att wro tol) N) (some (.int 0)) (mH G h (eMd G sv rem typ err lin why wha beh its siz att wro tol) N) := by
  obtain ⟨a2, a3, a4, b2, b3, b4, AP, AO⟩ := A
  refine Ct.of (L := [(0, _), (1, _), (2, _)]) (by decide) (ble rfl) rfl ?_
  first | refine x_aload_n 0 dX12_isAlike_0 rfl rfl ?_ | refine x_aload_nN 0 dX12_isAlike_0 rfl rfl ?_
  refine x_iload_n 1 dX12_isAlike_1 rfl rfl ?_
  refine x_cV1 (As := [.int _]) (ct_isPot_out ok a3 b3 hx) vX12_129 rfl (x_recv (by with_reducible repeat first | assumption | exact mH_0 ok | exact mH_1 | exact hset_s | refine mH_o (by first | assumption | exact nA ok (by omega) (by omega) (by omega)) (by first | assumption | exact nA ok (by omega) (by omega) (by omega)) ?_ | refine hget_n (by first | assumption | exact Ne.symm (by assumption) | exact nA ok (by omega) (by omega) (by omega)) ?_) rfl) rfl ⟨ble rfl, ble rfl⟩ (ble rfl) dX12_isAlike_2 rfl ?_
  refine x_if_eq 38 dX12_isAlike_5 (by decide) (fun _ => ?_) (fun z => by first | exact absurd (rfl) z | exact absurd z (rfl))
  refine x_iconst (v := 0) dX12_isAlike_38 rfl ?_
  refine x_zret rfl (by first | rfl | (split <;> rfl) | (unfold b2i; split <;> rfl)) dX12_isAlike_39 ?_
  exact ⟨rfl, rfl⟩
set_option maxRecDepth 100000 in
set_option maxHeartbeats 4000000 in
theorem ct_fits_ii {l : Launch} {G : Gl} {h : Hp} {sv rem typ err lin why wha beh its siz att wro tol : Int32} {N : Nat → Int32} (ok : Ok G) {ns np no : Nat} (A : RowA N ns np no) {i j : Nat} (hi : i < np) (hj : j < no) : CtR l G mX12_fits 8 [.ref (Ad G 20), .int (nI i), .int (nI j)] (mH G h (eMd G sv rem typ err lin why wha beh its siz att wro tol) N) (some (.int (lackN N i j))) (mH G h (eMd G sv rem typ err lin why wha beh its siz att wro tol) N) := by
  obtain ⟨a2, a3, a4, b2, b3, b4, AP, AO⟩ := A
  have P := AP i hi
  have O := AO j hj
  refine Ct.of (L := [(0, _), (1, _), (2, _)]) (by decide) (ble rfl) rfl ?_
  first | refine x_aload_n 0 dX12_fits_0 rfl rfl ?_ | refine x_aload_nN 0 dX12_fits_0 rfl rfl ?_
  refine x_iload_n 1 dX12_fits_1 rfl rfl ?_
  refine x_cV1 (As := [.int _]) (ct_isPot_in ok a3 b3 hi) vX12_129 rfl (x_recv (by with_reducible repeat first | assumption | exact mH_0 ok | exact mH_1 | exact hset_s | refine mH_o (by first | assumption | exact nA ok (by omega) (by omega) (by omega)) (by first | assumption | exact nA ok (by omega) (by omega) (by omega)) ?_ | refine hget_n (by first | assumption | exact Ne.symm (by assumption) | exact nA ok (by omega) (by omega) (by omega)) ?_) rfl) rfl ⟨ble rfl, ble rfl⟩ (ble rfl) dX12_fits_2 rfl ?_
  refine x_if_eq 25 dX12_fits_5 (by decide) (fun z => by first | exact absurd z (show ¬ (1 : Int32) = 0 by decide) | exact absurd (show ¬ (1 : Int32) = 0 by decide) z) (fun _ => ?_)
  first | refine x_aload_n 0 dX12_fits_8 rfl rfl ?_ | refine x_aload_nN 0 dX12_fits_8 rfl rfl ?_
  refine x_iload_n 2 dX12_fits_9 rfl rfl ?_
  refine x_cV1 (As := [.int _]) (ct_isOrder_in ok a4 (by omega) hj) vX12_171 rfl (x_recv (by with_reducible repeat first | assumption | exact mH_0 ok | exact mH_1 | exact hset_s | refine mH_o (by first | assumption | exact nA ok (by omega) (by omega) (by omega)) (by first | assumption | exact nA ok (by omega) (by omega) (by omega)) ?_ | refine hget_n (by first | assumption | exact Ne.symm (by assumption) | exact nA ok (by omega) (by omega) (by omega)) ?_) rfl) rfl ⟨ble rfl, ble rfl⟩ (ble rfl) dX12_fits_10 rfl ?_
  refine x_if_eq 25 dX12_fits_13 (by decide) (fun z => by first | exact absurd z (show ¬ (1 : Int32) = 0 by decide) | exact absurd (show ¬ (1 : Int32) = 0 by decide) z) (fun _ => ?_)
  first | refine x_aload_n 0 dX12_fits_16 rfl rfl ?_ | refine x_aload_nN 0 dX12_fits_16 rfl rfl ?_
  refine x_iload_n 1 dX12_fits_17 rfl rfl ?_
  refine x_iload_n 2 dX12_fits_18 rfl rfl ?_
  refine x_cV1 (As := [.int _, .int _]) (ct_X12_unfit ok (by omega) (by omega) (by assumption) (by assumption)) vX12_174 rfl (x_recv (by with_reducible repeat first | assumption | exact mH_0 ok | exact mH_1 | exact hset_s | refine mH_o (by first | assumption | exact nA ok (by omega) (by omega) (by omega)) (by first | assumption | exact nA ok (by omega) (by omega) (by omega)) ?_ | refine hget_n (by first | assumption | exact Ne.symm (by assumption) | exact nA ok (by omega) (by omega) (by omega)) ?_) rfl) rfl ⟨ble rfl, ble rfl⟩ (ble rfl) dX12_fits_19 rfl ?_
  refine x_goto 26 dX12_fits_22 (by decide) ?_
  refine x_iret rfl dX12_fits_26 ?_
  exact ⟨rfl, rfl⟩
set_option maxRecDepth 100000 in
set_option maxHeartbeats 4000000 in
theorem ct_fits_io {l : Launch} {G : Gl} {h : Hp} {sv rem typ err lin why wha beh its siz att wro tol : Int32} {N : Nat → Int32} (ok : Ok G) {ns np no : Nat} (A : RowA N ns np no) {i : Nat} (hi : i < np) (y : Int32) (hy : ¬ (0 ≤ y ∧ y < N 4)) : CtR l G mX12_fits 8 [.ref (Ad G 20), .int (nI i), .int y] (mH G h (eMd G sv rem typ err lin why wha beh its siz att wro tol) N) (some (.int (-1))) (mH G h (eMd G sv rem typ err lin why wha beh its siz att wro tol) N) := by
  obtain ⟨a2, a3, a4, b2, b3, b4, AP, AO⟩ := A
  refine Ct.of (L := [(0, _), (1, _), (2, _)]) (by decide) (ble rfl) rfl ?_
  first | refine x_aload_n 0 dX12_fits_0 rfl rfl ?_ | refine x_aload_nN 0 dX12_fits_0 rfl rfl ?_
  refine x_iload_n 1 dX12_fits_1 rfl rfl ?_
  refine x_cV1 (As := [.int _]) (ct_isPot_in ok a3 b3 hi) vX12_129 rfl (x_recv (by with_reducible repeat first | assumption | exact mH_0 ok | exact mH_1 | exact hset_s | refine mH_o (by first | assumption | exact nA ok (by omega) (by omega) (by omega)) (by first | assumption | exact nA ok (by omega) (by omega) (by omega)) ?_ | refine hget_n (by first | assumption | exact Ne.symm (by assumption) | exact nA ok (by omega) (by omega) (by omega)) ?_) rfl) rfl ⟨ble rfl, ble rfl⟩ (ble rfl) dX12_fits_2 rfl ?_
  refine x_if_eq 25 dX12_fits_5 (by decide) (fun z => by first | exact absurd z (show ¬ (1 : Int32) = 0 by decide) | exact absurd (show ¬ (1 : Int32) = 0 by decide) z) (fun _ => ?_)
  first | refine x_aload_n 0 dX12_fits_8 rfl rfl ?_ | refine x_aload_nN 0 dX12_fits_8 rfl rfl ?_
  refine x_iload_n 2 dX12_fits_9 rfl rfl ?_
  refine x_cV1 (As := [.int _]) (ct_isOrder_out ok a4 (by omega) hy) vX12_171 rfl (x_recv (by with_reducible repeat first | assumption | exact mH_0 ok | exact mH_1 | exact hset_s | refine mH_o (by first | assumption | exact nA ok (by omega) (by omega) (by omega)) (by first | assumption | exact nA ok (by omega) (by omega) (by omega)) ?_ | refine hget_n (by first | assumption | exact Ne.symm (by assumption) | exact nA ok (by omega) (by omega) (by omega)) ?_) rfl) rfl ⟨ble rfl, ble rfl⟩ (ble rfl) dX12_fits_10 rfl ?_
  refine x_if_eq 25 dX12_fits_13 (by decide) (fun _ => ?_) (fun z => by first | exact absurd (rfl) z | exact absurd z (rfl))
  refine x_iconst (v := -1) dX12_fits_25 rfl ?_
  refine x_iret rfl dX12_fits_26 ?_
  exact ⟨rfl, rfl⟩
set_option maxRecDepth 100000 in
set_option maxHeartbeats 4000000 in
theorem ct_fits_o {l : Launch} {G : Gl} {h : Hp} {sv rem typ err lin why wha beh its siz att wro tol : Int32} {N : Nat → Int32} (ok : Ok G) {ns np no : Nat} (A : RowA N ns np no) (x y : Int32) (hx : ¬ (0 ≤ x ∧ x < N 3)) : CtR l G mX12_fits 8 [.ref (Ad G 20), .int x, .int y] (mH G h (eMd G sv rem typ err lin why wha beh its siz att wro tol) N) (some (.int (-1))) (mH G h (eMd G sv rem typ err lin why wha beh its siz att wro tol) N) := by
  obtain ⟨a2, a3, a4, b2, b3, b4, AP, AO⟩ := A
  refine Ct.of (L := [(0, _), (1, _), (2, _)]) (by decide) (ble rfl) rfl ?_
  first | refine x_aload_n 0 dX12_fits_0 rfl rfl ?_ | refine x_aload_nN 0 dX12_fits_0 rfl rfl ?_
  refine x_iload_n 1 dX12_fits_1 rfl rfl ?_
  refine x_cV1 (As := [.int _]) (ct_isPot_out ok a3 b3 hx) vX12_129 rfl (x_recv (by with_reducible repeat first | assumption | exact mH_0 ok | exact mH_1 | exact hset_s | refine mH_o (by first | assumption | exact nA ok (by omega) (by omega) (by omega)) (by first | assumption | exact nA ok (by omega) (by omega) (by omega)) ?_ | refine hget_n (by first | assumption | exact Ne.symm (by assumption) | exact nA ok (by omega) (by omega) (by omega)) ?_) rfl) rfl ⟨ble rfl, ble rfl⟩ (ble rfl) dX12_fits_2 rfl ?_
  refine x_if_eq 25 dX12_fits_5 (by decide) (fun _ => ?_) (fun z => by first | exact absurd (rfl) z | exact absurd z (rfl))
  refine x_iconst (v := -1) dX12_fits_25 rfl ?_
  refine x_iret rfl dX12_fits_26 ?_
  exact ⟨rfl, rfl⟩
def fwG (p : Nat → Bool) : Nat → Int32
  | 0 => -4
  | i + 1 => if fwG p i = -4 ∧ p i = true then nI i else fwG p i
theorem fwG_s (p : Nat → Bool) (i : Nat) : fwG p (i + 1) = if fwG p i = -4 ∧ p i = true then nI i else fwG p i := rfl
set_option maxRecDepth 100000 in
set_option maxHeartbeats 4000000 in
theorem ct_goodFor_in {l : Launch} {G : Gl} {h : Hp} {sv rem typ err lin why wha beh its siz att wro tol : Int32} {N : Nat → Int32} (ok : Ok G) {ns np no : Nat} (A : RowA N ns np no) {j : Nat} (hj : j < no) : CtR l G mX12_goodFor 8 [.ref (Ad G 20), .int (nI j)] (mH G h (eMd G sv rem typ err lin why wha beh its siz att wro tol) N) (some (.int (fwG (fun i => !decide (goodN N i j = 0)) np))) (mH G h (eMd G sv rem typ err lin why wha beh its siz att wro tol) N) := by
  obtain ⟨a2, a3, a4, b2, b3, b4, AP, AO⟩ := A
  have O := AO j hj
  refine Ct.of (L := [(0, _), (1, _)]) (by decide) (ble rfl) rfl ?_
  first | refine x_aload_n 0 dX12_goodFor_0 rfl rfl ?_ | refine x_aload_nN 0 dX12_goodFor_0 rfl rfl ?_
  refine x_iload_n 1 dX12_goodFor_1 rfl rfl ?_
  refine x_cV1 (As := [.int _]) (ct_isOrder_in ok a4 (by omega) hj) vX12_171 rfl (x_recv (by with_reducible repeat first | assumption | exact mH_0 ok | exact mH_1 | exact hset_s | refine mH_o (by first | assumption | exact nA ok (by omega) (by omega) (by omega)) (by first | assumption | exact nA ok (by omega) (by omega) (by omega)) ?_ | refine hget_n (by first | assumption | exact Ne.symm (by assumption) | exact nA ok (by omega) (by omega) (by omega)) ?_) rfl) rfl ⟨ble rfl, ble rfl⟩ (ble rfl) dX12_goodFor_2 rfl ?_
  refine x_if_ne 10 dX12_goodFor_5 (by decide) (fun _ => ?_) (fun z => by first | exact absurd (show ¬ (1 : Int32) = 0 by decide) z | exact absurd z (show ¬ (1 : Int32) = 0 by decide))
  refine x_bipush (v := -4) dX12_goodFor_10 rfl ?_
  refine x_istore_n (L' := [(2, _), (0, _), (1, _)]) dX12_goodFor_12 rfl (ble rfl) rfl ?_
  refine x_iconst (v := 0) dX12_goodFor_13 rfl ?_
  refine x_istore_n (L' := [(3, _), (2, _), (0, _), (1, _)]) dX12_goodFor_14 rfl (ble rfl) rfl ?_
  refine x_locs (L' := [(3, _), (2, _), (0, _), (1, _)]) [0, 1, 2, 3] rfl ?_
  refine dn (P := fun i => XX l G mX12_goodFor (Rm 8 0 0) (KQ G (Rm 8 0 0) (fun w h' => w = some (.int (fwG (fun i => !decide (goodN N i j = 0)) np)) ∧ h' = (mH G h (eMd G sv rem typ err lin why wha beh its siz att wro tol) N))) 0 0 15 [(3, .int (nI i)), (2, .int (fwG (fun i => !decide (goodN N i j = 0)) i)), (0, .ref (Ad G 20)), (1, .int (nI j))] [] (mH G h (eMd G sv rem typ err lin why wha beh its siz att wro tol) N)) (n := np) ?_ (fun i hi ihi => ?_)
  · refine x_iload_n 0 dX12_goodFor_15 rfl rfl ?_
    first | refine x_aload_n 2 dX12_goodFor_16 rfl rfl ?_ | refine x_aload_nN 2 dX12_goodFor_16 rfl rfl ?_
    refine x_get fX12_9 rfl dX12_goodFor_17 (by with_reducible repeat first | assumption | exact mH_0 ok | exact mH_1 | exact hset_s | refine mH_o (by first | assumption | exact nA ok (by omega) (by omega) (by omega)) (by first | assumption | exact nA ok (by omega) (by omega) (by omega)) ?_ | refine hget_n (by first | assumption | exact Ne.symm (by assumption) | exact nA ok (by omega) (by omega) (by omega)) ?_) (by rfl) ?_
    refine x_iconst (v := 3) dX12_goodFor_20 rfl ?_
    refine x_mald (i := 3) (by first | exact Eq.refl (nI _) | exact ix_p _ _ | exact ix_o _ _ | exact ix_s _ | exact ix_s1 _ _ | (rw [ix_s]; exact nI_add _ _) | exact nI_add _ 1 | exact nI_add _ 2 | exact nI_add _ 3 | exact nI_add _ 4 | (rw [ix_o0]; exact nI_add _ 3) | (rw [ix_o0]; exact nI_add _ 4) | (rw [ix_o0]; exact nI_add _ _) | (rw [ix_o0]; exact (nI_add _ 3).trans (congrArg nI (by omega))) | (rw [ix_o0]; exact (nI_add _ 4).trans (congrArg nI (by omega))) | exact (nI_add _ 1).trans (congrArg nI (by omega)) | exact (nI_add _ 2).trans (congrArg nI (by omega)) | exact (nI_add _ 3).trans (congrArg nI (by omega)) | exact (nI_add _ 4).trans (congrArg nI (by omega))) dX12_goodFor_21 (by omega) rfl ?_
    refine x_icmp_ge 52 dX12_goodFor_22 (by decide) (fun _ => ?_) (fun z => by first | exact absurd (by rw [a3]; exact Int32.le_refl _) z | exact absurd z (by rw [a3]; exact Int32.le_refl _))
    refine x_iload_n 1 dX12_goodFor_52 rfl rfl ?_
    refine x_iret rfl dX12_goodFor_53 ?_
    exact ⟨rfl, rfl⟩
  · have P := AP i hi
    refine x_iload_n 0 dX12_goodFor_15 rfl rfl ?_
    first | refine x_aload_n 2 dX12_goodFor_16 rfl rfl ?_ | refine x_aload_nN 2 dX12_goodFor_16 rfl rfl ?_
    refine x_get fX12_9 rfl dX12_goodFor_17 (by with_reducible repeat first | assumption | exact mH_0 ok | exact mH_1 | exact hset_s | refine mH_o (by first | assumption | exact nA ok (by omega) (by omega) (by omega)) (by first | assumption | exact nA ok (by omega) (by omega) (by omega)) ?_ | refine hget_n (by first | assumption | exact Ne.symm (by assumption) | exact nA ok (by omega) (by omega) (by omega)) ?_) (by rfl) ?_
    refine x_iconst (v := 3) dX12_goodFor_20 rfl ?_
    refine x_mald (i := 3) (by first | exact Eq.refl (nI _) | exact ix_p _ _ | exact ix_o _ _ | exact ix_s _ | exact ix_s1 _ _ | (rw [ix_s]; exact nI_add _ _) | exact nI_add _ 1 | exact nI_add _ 2 | exact nI_add _ 3 | exact nI_add _ 4 | (rw [ix_o0]; exact nI_add _ 3) | (rw [ix_o0]; exact nI_add _ 4) | (rw [ix_o0]; exact nI_add _ _) | (rw [ix_o0]; exact (nI_add _ 3).trans (congrArg nI (by omega))) | (rw [ix_o0]; exact (nI_add _ 4).trans (congrArg nI (by omega))) | exact (nI_add _ 1).trans (congrArg nI (by omega)) | exact (nI_add _ 2).trans (congrArg nI (by omega)) | exact (nI_add _ 3).trans (congrArg nI (by omega)) | exact (nI_add _ 4).trans (congrArg nI (by omega))) dX12_goodFor_21 (by omega) rfl ?_
    refine x_icmp_ge 52 dX12_goodFor_22 (by decide) (fun z => by first | exact absurd z (by rw [a3]; exact nI_ge hi (by omega)) | exact absurd (by rw [a3]; exact nI_ge hi (by omega)) z) (fun _ => ?_)
    refine x_iload_n 1 dX12_goodFor_25 rfl rfl ?_
    refine x_bipush (v := -4) dX12_goodFor_26 rfl ?_
    refine x_icmp_ne 44 dX12_goodFor_28 (by decide) (fun c28 => ?_) (fun c28 => ?_)
    · refine x_iload_n 1 dX12_goodFor_44 rfl rfl ?_
      refine x_istore_n (L' := [(2, _), (3, _), (0, _), (1, _)]) dX12_goodFor_45 rfl (ble rfl) rfl ?_
      refine x_iinc (L' := [(3, _), (2, _), (0, _), (1, _)]) (j := 1) (nI (_ + 1)) dX12_goodFor_46 rfl (nI_1 _) (ble rfl) rfl ?_
      refine x_goto 15 dX12_goodFor_49 (by decide) ?_
      refine x_locs (L' := [(3, _), (2, _), (0, _), (1, _)]) [0, 1, 2, 3] rfl ?_
      refine x_eqL ?_ ihi
      rw [fwG_s]
      first | (rw [if_neg (fun z => c28 z.1)]; done) | (rw [if_neg (fun z => by have y := z.2; simp [c37] at y)]; done) | (rw [if_pos ⟨c28, by simp [c37]⟩]; done)
    · first | refine x_aload_n 2 dX12_goodFor_31 rfl rfl ?_ | refine x_aload_nN 2 dX12_goodFor_31 rfl rfl ?_
      refine x_iload_n 0 dX12_goodFor_32 rfl rfl ?_
      refine x_iload_n 3 dX12_goodFor_33 rfl rfl ?_
      refine x_cV1 (As := [.int _, .int _]) (ct_X12_isGood ok (by omega) (by omega) (by assumption) (by assumption)) vX12_183 rfl (x_recv (by with_reducible repeat first | assumption | exact mH_0 ok | exact mH_1 | exact hset_s | refine mH_o (by first | assumption | exact nA ok (by omega) (by omega) (by omega)) (by first | assumption | exact nA ok (by omega) (by omega) (by omega)) ?_ | refine hget_n (by first | assumption | exact Ne.symm (by assumption) | exact nA ok (by omega) (by omega) (by omega)) ?_) rfl) rfl ⟨ble rfl, ble rfl⟩ (ble rfl) dX12_goodFor_34 rfl ?_
      refine x_if_eq 44 dX12_goodFor_37 (by decide) (fun c37 => ?_) (fun c37 => ?_)
      · refine x_iload_n 1 dX12_goodFor_44 rfl rfl ?_
        refine x_istore_n (L' := [(2, _), (3, _), (0, _), (1, _)]) dX12_goodFor_45 rfl (ble rfl) rfl ?_
        refine x_iinc (L' := [(3, _), (2, _), (0, _), (1, _)]) (j := 1) (nI (_ + 1)) dX12_goodFor_46 rfl (nI_1 _) (ble rfl) rfl ?_
        refine x_goto 15 dX12_goodFor_49 (by decide) ?_
        refine x_locs (L' := [(3, _), (2, _), (0, _), (1, _)]) [0, 1, 2, 3] rfl ?_
        refine x_eqL ?_ ihi
        rw [fwG_s]
        first | (rw [if_neg (fun z => c28 z.1)]; done) | (rw [if_neg (fun z => by have y := z.2; simp [c37] at y)]; done) | (rw [if_pos ⟨c28, by simp [c37]⟩]; done)
      · refine x_iload_n 0 dX12_goodFor_40 rfl rfl ?_
        refine x_goto 45 dX12_goodFor_41 (by decide) ?_
        refine x_istore_n (L' := [(2, _), (3, _), (0, _), (1, _)]) dX12_goodFor_45 rfl (ble rfl) rfl ?_
        refine x_iinc (L' := [(3, _), (2, _), (0, _), (1, _)]) (j := 1) (nI (_ + 1)) dX12_goodFor_46 rfl (nI_1 _) (ble rfl) rfl ?_
        refine x_goto 15 dX12_goodFor_49 (by decide) ?_
        refine x_locs (L' := [(3, _), (2, _), (0, _), (1, _)]) [0, 1, 2, 3] rfl ?_
        refine x_eqL ?_ ihi
        rw [fwG_s]
        first | (rw [if_neg (fun z => c28 z.1)]; done) | (rw [if_neg (fun z => by have y := z.2; simp [c37] at y)]; done) | (rw [if_pos ⟨c28, by simp [c37]⟩]; done)
set_option maxRecDepth 100000 in
set_option maxHeartbeats 4000000 in
theorem ct_goodFor_out {l : Launch} {G : Gl} {h : Hp} {sv rem typ err lin why wha beh its siz att wro tol : Int32} {N : Nat → Int32} (ok : Ok G) {ns np no : Nat} (A : RowA N ns np no) (x : Int32) (hx : ¬ (0 ≤ x ∧ x < N 4)) : CtR l G mX12_goodFor 8 [.ref (Ad G 20), .int x] (mH G h (eMd G sv rem typ err lin why wha beh its siz att wro tol) N) (some (.int (-1))) (mH G h (eMd G sv rem typ err lin why wha beh its siz att wro tol) N) := by
  obtain ⟨a2, a3, a4, b2, b3, b4, AP, AO⟩ := A
  refine Ct.of (L := [(0, _), (1, _)]) (by decide) (ble rfl) rfl ?_
  first | refine x_aload_n 0 dX12_goodFor_0 rfl rfl ?_ | refine x_aload_nN 0 dX12_goodFor_0 rfl rfl ?_
  refine x_iload_n 1 dX12_goodFor_1 rfl rfl ?_
  refine x_cV1 (As := [.int _]) (ct_isOrder_out ok a4 (by omega) hx) vX12_171 rfl (x_recv (by with_reducible repeat first | assumption | exact mH_0 ok | exact mH_1 | exact hset_s | refine mH_o (by first | assumption | exact nA ok (by omega) (by omega) (by omega)) (by first | assumption | exact nA ok (by omega) (by omega) (by omega)) ?_ | refine hget_n (by first | assumption | exact Ne.symm (by assumption) | exact nA ok (by omega) (by omega) (by omega)) ?_) rfl) rfl ⟨ble rfl, ble rfl⟩ (ble rfl) dX12_goodFor_2 rfl ?_
  refine x_if_ne 10 dX12_goodFor_5 (by decide) (fun z => by first | exact absurd z (fun z => z rfl) | exact absurd (fun z => z rfl) z) (fun _ => ?_)
  refine x_iconst (v := -1) dX12_goodFor_8 rfl ?_
  refine x_iret rfl dX12_goodFor_9 ?_
  exact ⟨rfl, rfl⟩
