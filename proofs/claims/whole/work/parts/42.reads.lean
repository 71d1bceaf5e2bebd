def snM (N : Nat → Int32) (i : Nat) : Int32 := ringK (kOf (N (60 + 8 * i))) (N (61 + 8 * i)) (N (62 + 8 * i)) (N (63 + 8 * i))
def alM (N : Nat → Int32) (a i : Nat) : Int32 := if soldK (N (66 + 8 * a)) = 0 ∧ soldK (N (66 + 8 * (a + 1 + i))) = 0 ∧ ¬ alK (snM N a) (snM N (a + 1 + i)) = 0 then 1 else 0
theorem sm2_s (f : Nat → Int32) (z : Int32) (n : Nat) : sm2 f z (n + 1) = sm2 f z n + f n := rfl
def rkM (N : Nat → Int32) (p q : Nat) : Int32 := if ¬ nI q = nI p ∧ soldK (N (66 + 8 * q)) = 0 ∧ (0 < snM N q - snM N p ∨ (snM N q - snM N p = 0 ∧ nI q < nI p)) then 1 else 0
def fdM (N : Nat → Int32) (np : Nat) (x : Int32) : Nat → Int32
  | 0 => -1
  | p + 1 => if soldK (N (66 + 8 * p)) = 0 ∧ sm (rkM N p) np = x then nI p else fdM N np x p
theorem fdM_s (N : Nat → Int32) (np : Nat) (x : Int32) (p : Nat) : fdM N np x (p + 1) = if soldK (N (66 + 8 * p)) = 0 ∧ sm (rkM N p) np = x then nI p else fdM N np x p := rfl
def nxM (N : Nat → Int32) (x : Int32) : Nat → Int32
  | 0 => -1
  | p + 1 => if (soldK (N (66 + 8 * p)) = 0 ∧ x < snM N p) ∧ (nxM N x p = -1 ∨ snM N p < nxM N x p) then snM N p else nxM N x p
theorem nxM_s (N : Nat → Int32) (x : Int32) (p : Nat) : nxM N x (p + 1) = if (soldK (N (66 + 8 * p)) = 0 ∧ x < snM N p) ∧ (nxM N x p = -1 ∨ snM N p < nxM N x p) then snM N p else nxM N x p := rfl
def nrM (N : Nat → Int32) (x : Int32) : Nat → Int32
  | 0 => -4
  | p + 1 => if soldK (N (66 + 8 * p)) = 0 ∧ (nrM N x p = -4 ∨ ab (snM N p - x) < ab (snM N (kOf (nrM N x p)) - x)) then nI p else nrM N x p
theorem nrM_s (N : Nat → Int32) (x : Int32) (p : Nat) : nrM N x (p + 1) = if soldK (N (66 + 8 * p)) = 0 ∧ (nrM N x p = -4 ∨ ab (snM N p - x) < ab (snM N (kOf (nrM N x p)) - x)) then nI p else nrM N x p := rfl
theorem nrM_c (N : Nat → Int32) (x : Int32) : ∀ p, nrM N x p = -4 ∨ ∃ b, b < p ∧ nrM N x p = nI b
  | 0 => Or.inl rfl
  | p + 1 => by
    rw [nrM_s]
    split
    · exact Or.inr ⟨p, by omega, rfl⟩
    · rcases nrM_c N x p with h | ⟨b, hb, e⟩
      · exact Or.inl h
      · exact Or.inr ⟨b, by omega, e⟩
set_option maxRecDepth 100000 in
set_option maxHeartbeats 1000000 in
theorem ct_X12_nextSound {l : Launch} {G : Gl} {h : Hp} {sv rem typ err lin why wha beh its siz att wro tol : Int32} {N : Nat → Int32} (ok : Ok G) {ns np no : Nat} (A : RowA N ns np no) (x : Int32) : CtR l G mX12_nextSound 8 [.ref (Ad G 20), .int x] (mH G h (eMd G sv rem typ err lin why wha beh its siz att wro tol) N) (some (.int (nxM N x np))) (mH G h (eMd G sv rem typ err lin why wha beh its siz att wro tol) N) := by
  have A0 := A
  obtain ⟨a2, a3, a4, b2, b3, b4, AP, AO⟩ := A
  refine Ct.of (L := [(0, _), (1, _)]) (by decide) (ble rfl) rfl ?_
  refine x_iconst (v := -1) dX12_nextSound_0 rfl ?_
  refine x_istore_n (L' := [(2, _), (0, _), (1, _)]) dX12_nextSound_1 rfl (ble rfl) rfl ?_
  refine x_iconst (v := 0) dX12_nextSound_2 rfl ?_
  refine x_istore_n (L' := [(3, _), (2, _), (0, _), (1, _)]) dX12_nextSound_3 rfl (ble rfl) rfl ?_
  refine x_locs (L' := [(3, _), (2, _), (0, _), (1, _)]) [0, 1, 2, 3] rfl ?_
  refine dn (P := fun i => XX l G mX12_nextSound (Rm 8 0 0) (KQ G (Rm 8 0 0) (fun w h' => w = some (.int (nxM N x np)) ∧ h' = (mH G h (eMd G sv rem typ err lin why wha beh its siz att wro tol) N))) 0 0 4 [(3, .int (nI i)), (2, .int (nxM N x i)), (0, .ref (Ad G 20)), (1, .int x)] [] (mH G h (eMd G sv rem typ err lin why wha beh its siz att wro tol) N)) (n := np) ?_ (fun i hi ihi => ?_)
  · refine x_iload_n 0 dX12_nextSound_4 rfl rfl ?_
    first | refine x_aload_n 2 dX12_nextSound_5 rfl rfl ?_ | refine x_aload_nN 2 dX12_nextSound_5 rfl rfl ?_
    refine x_get fX12_9 rfl dX12_nextSound_6 (by with_reducible repeat first | assumption | exact mH_0 ok | exact mH_1 | exact hset_s | refine mH_o (by first | assumption | exact nA ok (by omega) (by omega) (by omega)) (by first | assumption | exact nA ok (by omega) (by omega) (by omega)) ?_ | refine hget_n (by first | assumption | exact Ne.symm (by assumption) | exact nA ok (by omega) (by omega) (by omega)) ?_) (by rfl) ?_
    refine x_iconst (v := 3) dX12_nextSound_9 rfl ?_
    refine x_mald (i := 3) (by first | exact Eq.refl (nI _) | exact ix_p _ _ | exact ix_o _ _ | exact ix_s _ | exact ix_s1 _ _ | (rw [ix_s]; exact nI_add _ _) | exact nI_add _ 1 | exact nI_add _ 2 | exact nI_add _ 3 | exact nI_add _ 4 | (rw [ix_o0]; exact nI_add _ 3) | (rw [ix_o0]; exact nI_add _ 4) | (rw [ix_o0]; exact nI_add _ _) | (rw [ix_o0]; exact (nI_add _ 3).trans (congrArg nI (by omega))) | (rw [ix_o0]; exact (nI_add _ 4).trans (congrArg nI (by omega))) | exact (nI_add _ 1).trans (congrArg nI (by omega)) | exact (nI_add _ 2).trans (congrArg nI (by omega)) | exact (nI_add _ 3).trans (congrArg nI (by omega)) | exact (nI_add _ 4).trans (congrArg nI (by omega))) dX12_nextSound_10 (by omega) rfl ?_
    refine x_icmp_ge 73 dX12_nextSound_11 (by decide) (fun _ => ?_) (fun z => by first | exact absurd (by rw [a3]; exact Int32.le_refl _) z | exact absurd z (by rw [a3]; exact Int32.le_refl _))
    refine x_iload_n 1 dX12_nextSound_73 rfl rfl ?_
    refine x_iret rfl dX12_nextSound_74 ?_
    exact ⟨rfl, rfl⟩
  · refine x_iload_n 0 dX12_nextSound_4 rfl rfl ?_
    first | refine x_aload_n 2 dX12_nextSound_5 rfl rfl ?_ | refine x_aload_nN 2 dX12_nextSound_5 rfl rfl ?_
    refine x_get fX12_9 rfl dX12_nextSound_6 (by with_reducible repeat first | assumption | exact mH_0 ok | exact mH_1 | exact hset_s | refine mH_o (by first | assumption | exact nA ok (by omega) (by omega) (by omega)) (by first | assumption | exact nA ok (by omega) (by omega) (by omega)) ?_ | refine hget_n (by first | assumption | exact Ne.symm (by assumption) | exact nA ok (by omega) (by omega) (by omega)) ?_) (by rfl) ?_
    refine x_iconst (v := 3) dX12_nextSound_9 rfl ?_
    refine x_mald (i := 3) (by first | exact Eq.refl (nI _) | exact ix_p _ _ | exact ix_o _ _ | exact ix_s _ | exact ix_s1 _ _ | (rw [ix_s]; exact nI_add _ _) | exact nI_add _ 1 | exact nI_add _ 2 | exact nI_add _ 3 | exact nI_add _ 4 | (rw [ix_o0]; exact nI_add _ 3) | (rw [ix_o0]; exact nI_add _ 4) | (rw [ix_o0]; exact nI_add _ _) | (rw [ix_o0]; exact (nI_add _ 3).trans (congrArg nI (by omega))) | (rw [ix_o0]; exact (nI_add _ 4).trans (congrArg nI (by omega))) | exact (nI_add _ 1).trans (congrArg nI (by omega)) | exact (nI_add _ 2).trans (congrArg nI (by omega)) | exact (nI_add _ 3).trans (congrArg nI (by omega)) | exact (nI_add _ 4).trans (congrArg nI (by omega))) dX12_nextSound_10 (by omega) rfl ?_
    refine x_icmp_ge 73 dX12_nextSound_11 (by decide) (fun z => by first | exact absurd z (by rw [a3]; exact nI_ge hi (by omega)) | exact absurd (by rw [a3]; exact nI_ge hi (by omega)) z) (fun _ => ?_)
    first | refine x_aload_n 2 dX12_nextSound_14 rfl rfl ?_ | refine x_aload_nN 2 dX12_nextSound_14 rfl rfl ?_
    refine x_iload_n 0 dX12_nextSound_15 rfl rfl ?_
    refine x_cV1 (As := [.int _]) (ct_X12_isSold ok (i := i) (by omega)) vX12_132 rfl (x_recv (by with_reducible repeat first | assumption | exact mH_0 ok | exact mH_1 | exact hset_s | refine mH_o (by first | assumption | exact nA ok (by omega) (by omega) (by omega)) (by first | assumption | exact nA ok (by omega) (by omega) (by omega)) ?_ | refine hget_n (by first | assumption | exact Ne.symm (by assumption) | exact nA ok (by omega) (by omega) (by omega)) ?_) rfl) rfl ⟨ble rfl, ble rfl⟩ (ble rfl) dX12_nextSound_16 rfl ?_
    refine x_if_ne 35 dX12_nextSound_19 (by decide) (fun c19 => ?_) (fun c19 => ?_)
    · refine x_iconst (v := 0) dX12_nextSound_35 rfl ?_
      refine x_istore (L' := [(4, _), (3, _), (2, _), (0, _), (1, _)]) dX12_nextSound_36 (ble rfl) rfl ?_
      refine x_iload 0 dX12_nextSound_38 rfl ?_
      refine x_if_eq 65 dX12_nextSound_40 (by decide) (fun c40 => ?_) (fun c40 => ?_)
      · refine x_iload_n 2 dX12_nextSound_65 rfl rfl ?_
        refine x_istore_n (L' := [(2, _), (4, _), (3, _), (0, _), (1, _)]) dX12_nextSound_66 rfl (ble rfl) rfl ?_
        refine x_iinc (L' := [(3, _), (2, _), (4, _), (0, _), (1, _)]) (j := 2) (nI (_ + 1)) dX12_nextSound_67 rfl (nI_1 _) (ble rfl) rfl ?_
        refine x_goto 4 dX12_nextSound_70 (by decide) ?_
        refine x_locs (L' := [(3, _), (2, _), (0, _), (1, _)]) [0, 1, 3, 4] rfl ?_
        refine x_eqL ?_ ihi
        rw [nxM_s]
        first | exact absurd rfl c40 | exact absurd c40 (by decide) | (rw [if_neg (fun z => c19 z.1.1)]; done) | (rw [if_neg (fun z => absurd z.1.2 (Int32.not_lt.mpr c28))]; done) | (rw [if_pos ⟨⟨c19, Int32.not_le.mp c28⟩, Or.inl c45⟩] <;> rfl) | (rw [if_pos ⟨⟨c19, Int32.not_le.mp c28⟩, Or.inr (Int32.not_le.mp c54)⟩] <;> rfl) | (rw [if_neg (fun z => z.2.elim c45 (fun y => absurd y (Int32.not_lt.mpr c54)))]; done)
      · refine x_iload_n 2 dX12_nextSound_43 rfl rfl ?_
        refine x_iconst (v := -1) dX12_nextSound_44 rfl ?_
        refine x_icmp_eq 57 dX12_nextSound_45 (by decide) (fun c45 => ?_) (fun c45 => ?_)
        · first | refine x_aload_n 3 dX12_nextSound_57 rfl rfl ?_ | refine x_aload_nN 3 dX12_nextSound_57 rfl rfl ?_
          refine x_iload_n 1 dX12_nextSound_58 rfl rfl ?_
          refine x_cV1 (As := [.int _]) (ct_X12_soundOf ok (i := i) (by omega) (AP i (by omega))) vX12_194 rfl (x_recv (by with_reducible repeat first | assumption | exact mH_0 ok | exact mH_1 | exact hset_s | refine mH_o (by first | assumption | exact nA ok (by omega) (by omega) (by omega)) (by first | assumption | exact nA ok (by omega) (by omega) (by omega)) ?_ | refine hget_n (by first | assumption | exact Ne.symm (by assumption) | exact nA ok (by omega) (by omega) (by omega)) ?_) rfl) rfl ⟨ble rfl, ble rfl⟩ (ble rfl) dX12_nextSound_59 rfl ?_
          refine x_goto 66 dX12_nextSound_62 (by decide) ?_
          refine x_istore_n (L' := [(2, _), (4, _), (3, _), (0, _), (1, _)]) dX12_nextSound_66 rfl (ble rfl) rfl ?_
          refine x_iinc (L' := [(3, _), (2, _), (4, _), (0, _), (1, _)]) (j := 2) (nI (_ + 1)) dX12_nextSound_67 rfl (nI_1 _) (ble rfl) rfl ?_
          refine x_goto 4 dX12_nextSound_70 (by decide) ?_
          refine x_locs (L' := [(3, _), (2, _), (0, _), (1, _)]) [0, 1, 3, 4] rfl ?_
          refine x_eqL ?_ ihi
          rw [nxM_s]
          first | exact absurd rfl c40 | exact absurd c40 (by decide) | (rw [if_neg (fun z => c19 z.1.1)]; done) | (rw [if_neg (fun z => absurd z.1.2 (Int32.not_lt.mpr c28))]; done) | (rw [if_pos ⟨⟨c19, Int32.not_le.mp c28⟩, Or.inl c45⟩] <;> rfl) | (rw [if_pos ⟨⟨c19, Int32.not_le.mp c28⟩, Or.inr (Int32.not_le.mp c54)⟩] <;> rfl) | (rw [if_neg (fun z => z.2.elim c45 (fun y => absurd y (Int32.not_lt.mpr c54)))]; done)
        · first | refine x_aload_n 3 dX12_nextSound_48 rfl rfl ?_ | refine x_aload_nN 3 dX12_nextSound_48 rfl rfl ?_
          refine x_iload_n 1 dX12_nextSound_49 rfl rfl ?_
          refine x_cV1 (As := [.int _]) (ct_X12_soundOf ok (i := i) (by omega) (AP i (by omega))) vX12_194 rfl (x_recv (by with_reducible repeat first | assumption | exact mH_0 ok | exact mH_1 | exact hset_s | refine mH_o (by first | assumption | exact nA ok (by omega) (by omega) (by omega)) (by first | assumption | exact nA ok (by omega) (by omega) (by omega)) ?_ | refine hget_n (by first | assumption | exact Ne.symm (by assumption) | exact nA ok (by omega) (by omega) (by omega)) ?_) rfl) rfl ⟨ble rfl, ble rfl⟩ (ble rfl) dX12_nextSound_50 rfl ?_
          refine x_iload_n 2 dX12_nextSound_53 rfl rfl ?_
          refine x_icmp_ge 65 dX12_nextSound_54 (by decide) (fun c54 => ?_) (fun c54 => ?_)
          · refine x_iload_n 2 dX12_nextSound_65 rfl rfl ?_
            refine x_istore_n (L' := [(2, _), (4, _), (3, _), (0, _), (1, _)]) dX12_nextSound_66 rfl (ble rfl) rfl ?_
            refine x_iinc (L' := [(3, _), (2, _), (4, _), (0, _), (1, _)]) (j := 2) (nI (_ + 1)) dX12_nextSound_67 rfl (nI_1 _) (ble rfl) rfl ?_
            refine x_goto 4 dX12_nextSound_70 (by decide) ?_
            refine x_locs (L' := [(3, _), (2, _), (0, _), (1, _)]) [0, 1, 3, 4] rfl ?_
            refine x_eqL ?_ ihi
            rw [nxM_s]
            first | exact absurd rfl c40 | exact absurd c40 (by decide) | (rw [if_neg (fun z => c19 z.1.1)]; done) | (rw [if_neg (fun z => absurd z.1.2 (Int32.not_lt.mpr c28))]; done) | (rw [if_pos ⟨⟨c19, Int32.not_le.mp c28⟩, Or.inl c45⟩] <;> rfl) | (rw [if_pos ⟨⟨c19, Int32.not_le.mp c28⟩, Or.inr (Int32.not_le.mp c54)⟩] <;> rfl) | (rw [if_neg (fun z => z.2.elim c45 (fun y => absurd y (Int32.not_lt.mpr c54)))]; done)
          · first | refine x_aload_n 3 dX12_nextSound_57 rfl rfl ?_ | refine x_aload_nN 3 dX12_nextSound_57 rfl rfl ?_
            refine x_iload_n 1 dX12_nextSound_58 rfl rfl ?_
            refine x_cV1 (As := [.int _]) (ct_X12_soundOf ok (i := i) (by omega) (AP i (by omega))) vX12_194 rfl (x_recv (by with_reducible repeat first | assumption | exact mH_0 ok | exact mH_1 | exact hset_s | refine mH_o (by first | assumption | exact nA ok (by omega) (by omega) (by omega)) (by first | assumption | exact nA ok (by omega) (by omega) (by omega)) ?_ | refine hget_n (by first | assumption | exact Ne.symm (by assumption) | exact nA ok (by omega) (by omega) (by omega)) ?_) rfl) rfl ⟨ble rfl, ble rfl⟩ (ble rfl) dX12_nextSound_59 rfl ?_
            refine x_goto 66 dX12_nextSound_62 (by decide) ?_
            refine x_istore_n (L' := [(2, _), (4, _), (3, _), (0, _), (1, _)]) dX12_nextSound_66 rfl (ble rfl) rfl ?_
            refine x_iinc (L' := [(3, _), (2, _), (4, _), (0, _), (1, _)]) (j := 2) (nI (_ + 1)) dX12_nextSound_67 rfl (nI_1 _) (ble rfl) rfl ?_
            refine x_goto 4 dX12_nextSound_70 (by decide) ?_
            refine x_locs (L' := [(3, _), (2, _), (0, _), (1, _)]) [0, 1, 3, 4] rfl ?_
            refine x_eqL ?_ ihi
            rw [nxM_s]
            first | exact absurd rfl c40 | exact absurd c40 (by decide) | (rw [if_neg (fun z => c19 z.1.1)]; done) | (rw [if_neg (fun z => absurd z.1.2 (Int32.not_lt.mpr c28))]; done) | (rw [if_pos ⟨⟨c19, Int32.not_le.mp c28⟩, Or.inl c45⟩] <;> rfl) | (rw [if_pos ⟨⟨c19, Int32.not_le.mp c28⟩, Or.inr (Int32.not_le.mp c54)⟩] <;> rfl) | (rw [if_neg (fun z => z.2.elim c45 (fun y => absurd y (Int32.not_lt.mpr c54)))]; done)
    · first | refine x_aload_n 2 dX12_nextSound_22 rfl rfl ?_ | refine x_aload_nN 2 dX12_nextSound_22 rfl rfl ?_
      refine x_iload_n 0 dX12_nextSound_23 rfl rfl ?_
      refine x_cV1 (As := [.int _]) (ct_X12_soundOf ok (i := i) (by omega) (AP i (by omega))) vX12_194 rfl (x_recv (by with_reducible repeat first | assumption | exact mH_0 ok | exact mH_1 | exact hset_s | refine mH_o (by first | assumption | exact nA ok (by omega) (by omega) (by omega)) (by first | assumption | exact nA ok (by omega) (by omega) (by omega)) ?_ | refine hget_n (by first | assumption | exact Ne.symm (by assumption) | exact nA ok (by omega) (by omega) (by omega)) ?_) rfl) rfl ⟨ble rfl, ble rfl⟩ (ble rfl) dX12_nextSound_24 rfl ?_
      refine x_iload_n 3 dX12_nextSound_27 rfl rfl ?_
      refine x_icmp_le 35 dX12_nextSound_28 (by decide) (fun c28 => ?_) (fun c28 => ?_)
      · refine x_iconst (v := 0) dX12_nextSound_35 rfl ?_
        refine x_istore (L' := [(4, _), (3, _), (2, _), (0, _), (1, _)]) dX12_nextSound_36 (ble rfl) rfl ?_
        refine x_iload 0 dX12_nextSound_38 rfl ?_
        refine x_if_eq 65 dX12_nextSound_40 (by decide) (fun c40 => ?_) (fun c40 => ?_)
        · refine x_iload_n 2 dX12_nextSound_65 rfl rfl ?_
          refine x_istore_n (L' := [(2, _), (4, _), (3, _), (0, _), (1, _)]) dX12_nextSound_66 rfl (ble rfl) rfl ?_
          refine x_iinc (L' := [(3, _), (2, _), (4, _), (0, _), (1, _)]) (j := 2) (nI (_ + 1)) dX12_nextSound_67 rfl (nI_1 _) (ble rfl) rfl ?_
          refine x_goto 4 dX12_nextSound_70 (by decide) ?_
          refine x_locs (L' := [(3, _), (2, _), (0, _), (1, _)]) [0, 1, 3, 4] rfl ?_
          refine x_eqL ?_ ihi
          rw [nxM_s]
          first | exact absurd rfl c40 | exact absurd c40 (by decide) | (rw [if_neg (fun z => c19 z.1.1)]; done) | (rw [if_neg (fun z => absurd z.1.2 (Int32.not_lt.mpr c28))]; done) | (rw [if_pos ⟨⟨c19, Int32.not_le.mp c28⟩, Or.inl c45⟩] <;> rfl) | (rw [if_pos ⟨⟨c19, Int32.not_le.mp c28⟩, Or.inr (Int32.not_le.mp c54)⟩] <;> rfl) | (rw [if_neg (fun z => z.2.elim c45 (fun y => absurd y (Int32.not_lt.mpr c54)))]; done)
        · refine x_iload_n 2 dX12_nextSound_43 rfl rfl ?_
          refine x_iconst (v := -1) dX12_nextSound_44 rfl ?_
          refine x_icmp_eq 57 dX12_nextSound_45 (by decide) (fun c45 => ?_) (fun c45 => ?_)
          · first | refine x_aload_n 3 dX12_nextSound_57 rfl rfl ?_ | refine x_aload_nN 3 dX12_nextSound_57 rfl rfl ?_
            refine x_iload_n 1 dX12_nextSound_58 rfl rfl ?_
            refine x_cV1 (As := [.int _]) (ct_X12_soundOf ok (i := i) (by omega) (AP i (by omega))) vX12_194 rfl (x_recv (by with_reducible repeat first | assumption | exact mH_0 ok | exact mH_1 | exact hset_s | refine mH_o (by first | assumption | exact nA ok (by omega) (by omega) (by omega)) (by first | assumption | exact nA ok (by omega) (by omega) (by omega)) ?_ | refine hget_n (by first | assumption | exact Ne.symm (by assumption) | exact nA ok (by omega) (by omega) (by omega)) ?_) rfl) rfl ⟨ble rfl, ble rfl⟩ (ble rfl) dX12_nextSound_59 rfl ?_
            refine x_goto 66 dX12_nextSound_62 (by decide) ?_
            refine x_istore_n (L' := [(2, _), (4, _), (3, _), (0, _), (1, _)]) dX12_nextSound_66 rfl (ble rfl) rfl ?_
            refine x_iinc (L' := [(3, _), (2, _), (4, _), (0, _), (1, _)]) (j := 2) (nI (_ + 1)) dX12_nextSound_67 rfl (nI_1 _) (ble rfl) rfl ?_
            refine x_goto 4 dX12_nextSound_70 (by decide) ?_
            refine x_locs (L' := [(3, _), (2, _), (0, _), (1, _)]) [0, 1, 3, 4] rfl ?_
            refine x_eqL ?_ ihi
            rw [nxM_s]
            first | exact absurd rfl c40 | exact absurd c40 (by decide) | (rw [if_neg (fun z => c19 z.1.1)]; done) | (rw [if_neg (fun z => absurd z.1.2 (Int32.not_lt.mpr c28))]; done) | (rw [if_pos ⟨⟨c19, Int32.not_le.mp c28⟩, Or.inl c45⟩] <;> rfl) | (rw [if_pos ⟨⟨c19, Int32.not_le.mp c28⟩, Or.inr (Int32.not_le.mp c54)⟩] <;> rfl) | (rw [if_neg (fun z => z.2.elim c45 (fun y => absurd y (Int32.not_lt.mpr c54)))]; done)
          · first | refine x_aload_n 3 dX12_nextSound_48 rfl rfl ?_ | refine x_aload_nN 3 dX12_nextSound_48 rfl rfl ?_
            refine x_iload_n 1 dX12_nextSound_49 rfl rfl ?_
            refine x_cV1 (As := [.int _]) (ct_X12_soundOf ok (i := i) (by omega) (AP i (by omega))) vX12_194 rfl (x_recv (by with_reducible repeat first | assumption | exact mH_0 ok | exact mH_1 | exact hset_s | refine mH_o (by first | assumption | exact nA ok (by omega) (by omega) (by omega)) (by first | assumption | exact nA ok (by omega) (by omega) (by omega)) ?_ | refine hget_n (by first | assumption | exact Ne.symm (by assumption) | exact nA ok (by omega) (by omega) (by omega)) ?_) rfl) rfl ⟨ble rfl, ble rfl⟩ (ble rfl) dX12_nextSound_50 rfl ?_
            refine x_iload_n 2 dX12_nextSound_53 rfl rfl ?_
            refine x_icmp_ge 65 dX12_nextSound_54 (by decide) (fun c54 => ?_) (fun c54 => ?_)
            · refine x_iload_n 2 dX12_nextSound_65 rfl rfl ?_
              refine x_istore_n (L' := [(2, _), (4, _), (3, _), (0, _), (1, _)]) dX12_nextSound_66 rfl (ble rfl) rfl ?_
              refine x_iinc (L' := [(3, _), (2, _), (4, _), (0, _), (1, _)]) (j := 2) (nI (_ + 1)) dX12_nextSound_67 rfl (nI_1 _) (ble rfl) rfl ?_
              refine x_goto 4 dX12_nextSound_70 (by decide) ?_
              refine x_locs (L' := [(3, _), (2, _), (0, _), (1, _)]) [0, 1, 3, 4] rfl ?_
              refine x_eqL ?_ ihi
              rw [nxM_s]
              first | exact absurd rfl c40 | exact absurd c40 (by decide) | (rw [if_neg (fun z => c19 z.1.1)]; done) | (rw [if_neg (fun z => absurd z.1.2 (Int32.not_lt.mpr c28))]; done) | (rw [if_pos ⟨⟨c19, Int32.not_le.mp c28⟩, Or.inl c45⟩] <;> rfl) | (rw [if_pos ⟨⟨c19, Int32.not_le.mp c28⟩, Or.inr (Int32.not_le.mp c54)⟩] <;> rfl) | (rw [if_neg (fun z => z.2.elim c45 (fun y => absurd y (Int32.not_lt.mpr c54)))]; done)
            · first | refine x_aload_n 3 dX12_nextSound_57 rfl rfl ?_ | refine x_aload_nN 3 dX12_nextSound_57 rfl rfl ?_
              refine x_iload_n 1 dX12_nextSound_58 rfl rfl ?_
              refine x_cV1 (As := [.int _]) (ct_X12_soundOf ok (i := i) (by omega) (AP i (by omega))) vX12_194 rfl (x_recv (by with_reducible repeat first | assumption | exact mH_0 ok | exact mH_1 | exact hset_s | refine mH_o (by first | assumption | exact nA ok (by omega) (by omega) (by omega)) (by first | assumption | exact nA ok (by omega) (by omega) (by omega)) ?_ | refine hget_n (by first | assumption | exact Ne.symm (by assumption) | exact nA ok (by omega) (by omega) (by omega)) ?_) rfl) rfl ⟨ble rfl, ble rfl⟩ (ble rfl) dX12_nextSound_59 rfl ?_
              refine x_goto 66 dX12_nextSound_62 (by decide) ?_
              refine x_istore_n (L' := [(2, _), (4, _), (3, _), (0, _), (1, _)]) dX12_nextSound_66 rfl (ble rfl) rfl ?_
              refine x_iinc (L' := [(3, _), (2, _), (4, _), (0, _), (1, _)]) (j := 2) (nI (_ + 1)) dX12_nextSound_67 rfl (nI_1 _) (ble rfl) rfl ?_
              refine x_goto 4 dX12_nextSound_70 (by decide) ?_
              refine x_locs (L' := [(3, _), (2, _), (0, _), (1, _)]) [0, 1, 3, 4] rfl ?_
              refine x_eqL ?_ ihi
              rw [nxM_s]
              first | exact absurd rfl c40 | exact absurd c40 (by decide) | (rw [if_neg (fun z => c19 z.1.1)]; done) | (rw [if_neg (fun z => absurd z.1.2 (Int32.not_lt.mpr c28))]; done) | (rw [if_pos ⟨⟨c19, Int32.not_le.mp c28⟩, Or.inl c45⟩] <;> rfl) | (rw [if_pos ⟨⟨c19, Int32.not_le.mp c28⟩, Or.inr (Int32.not_le.mp c54)⟩] <;> rfl) | (rw [if_neg (fun z => z.2.elim c45 (fun y => absurd y (Int32.not_lt.mpr c54)))]; done)
      · refine x_iconst (v := 1) dX12_nextSound_31 rfl ?_
        refine x_goto 36 dX12_nextSound_32 (by decide) ?_
        refine x_istore (L' := [(4, _), (3, _), (2, _), (0, _), (1, _)]) dX12_nextSound_36 (ble rfl) rfl ?_
        refine x_iload 0 dX12_nextSound_38 rfl ?_
        refine x_if_eq 65 dX12_nextSound_40 (by decide) (fun c40 => ?_) (fun c40 => ?_)
        · refine x_iload_n 2 dX12_nextSound_65 rfl rfl ?_
          refine x_istore_n (L' := [(2, _), (4, _), (3, _), (0, _), (1, _)]) dX12_nextSound_66 rfl (ble rfl) rfl ?_
          refine x_iinc (L' := [(3, _), (2, _), (4, _), (0, _), (1, _)]) (j := 2) (nI (_ + 1)) dX12_nextSound_67 rfl (nI_1 _) (ble rfl) rfl ?_
          refine x_goto 4 dX12_nextSound_70 (by decide) ?_
          refine x_locs (L' := [(3, _), (2, _), (0, _), (1, _)]) [0, 1, 3, 4] rfl ?_
          refine x_eqL ?_ ihi
          rw [nxM_s]
          first | exact absurd rfl c40 | exact absurd c40 (by decide) | (rw [if_neg (fun z => c19 z.1.1)]; done) | (rw [if_neg (fun z => absurd z.1.2 (Int32.not_lt.mpr c28))]; done) | (rw [if_pos ⟨⟨c19, Int32.not_le.mp c28⟩, Or.inl c45⟩] <;> rfl) | (rw [if_pos ⟨⟨c19, Int32.not_le.mp c28⟩, Or.inr (Int32.not_le.mp c54)⟩] <;> rfl) | (rw [if_neg (fun z => z.2.elim c45 (fun y => absurd y (Int32.not_lt.mpr c54)))]; done)
        · refine x_iload_n 2 dX12_nextSound_43 rfl rfl ?_
          refine x_iconst (v := -1) dX12_nextSound_44 rfl ?_
          refine x_icmp_eq 57 dX12_nextSound_45 (by decide) (fun c45 => ?_) (fun c45 => ?_)
          · first | refine x_aload_n 3 dX12_nextSound_57 rfl rfl ?_ | refine x_aload_nN 3 dX12_nextSound_57 rfl rfl ?_
            refine x_iload_n 1 dX12_nextSound_58 rfl rfl ?_
            refine x_cV1 (As := [.int _]) (ct_X12_soundOf ok (i := i) (by omega) (AP i (by omega))) vX12_194 rfl (x_recv (by with_reducible repeat first | assumption | exact mH_0 ok | exact mH_1 | exact hset_s | refine mH_o (by first | assumption | exact nA ok (by omega) (by omega) (by omega)) (by first | assumption | exact nA ok (by omega) (by omega) (by omega)) ?_ | refine hget_n (by first | assumption | exact Ne.symm (by assumption) | exact nA ok (by omega) (by omega) (by omega)) ?_) rfl) rfl ⟨ble rfl, ble rfl⟩ (ble rfl) dX12_nextSound_59 rfl ?_
            refine x_goto 66 dX12_nextSound_62 (by decide) ?_
            refine x_istore_n (L' := [(2, _), (4, _), (3, _), (0, _), (1, _)]) dX12_nextSound_66 rfl (ble rfl) rfl ?_
            refine x_iinc (L' := [(3, _), (2, _), (4, _), (0, _), (1, _)]) (j := 2) (nI (_ + 1)) dX12_nextSound_67 rfl (nI_1 _) (ble rfl) rfl ?_
            refine x_goto 4 dX12_nextSound_70 (by decide) ?_
            refine x_locs (L' := [(3, _), (2, _), (0, _), (1, _)]) [0, 1, 3, 4] rfl ?_
            refine x_eqL ?_ ihi
            rw [nxM_s]
            first | exact absurd rfl c40 | exact absurd c40 (by decide) | (rw [if_neg (fun z => c19 z.1.1)]; done) | (rw [if_neg (fun z => absurd z.1.2 (Int32.not_lt.mpr c28))]; done) | (rw [if_pos ⟨⟨c19, Int32.not_le.mp c28⟩, Or.inl c45⟩] <;> rfl) | (rw [if_pos ⟨⟨c19, Int32.not_le.mp c28⟩, Or.inr (Int32.not_le.mp c54)⟩] <;> rfl) | (rw [if_neg (fun z => z.2.elim c45 (fun y => absurd y (Int32.not_lt.mpr c54)))]; done)
          · first | refine x_aload_n 3 dX12_nextSound_48 rfl rfl ?_ | refine x_aload_nN 3 dX12_nextSound_48 rfl rfl ?_
            refine x_iload_n 1 dX12_nextSound_49 rfl rfl ?_
            refine x_cV1 (As := [.int _]) (ct_X12_soundOf ok (i := i) (by omega) (AP i (by omega))) vX12_194 rfl (x_recv (by with_reducible repeat first | assumption | exact mH_0 ok | exact mH_1 | exact hset_s | refine mH_o (by first | assumption | exact nA ok (by omega) (by omega) (by omega)) (by first | assumption | exact nA ok (by omega) (by omega) (by omega)) ?_ | refine hget_n (by first | assumption | exact Ne.symm (by assumption) | exact nA ok (by omega) (by omega) (by omega)) ?_) rfl) rfl ⟨ble rfl, ble rfl⟩ (ble rfl) dX12_nextSound_50 rfl ?_
            refine x_iload_n 2 dX12_nextSound_53 rfl rfl ?_
            refine x_icmp_ge 65 dX12_nextSound_54 (by decide) (fun c54 => ?_) (fun c54 => ?_)
            · refine x_iload_n 2 dX12_nextSound_65 rfl rfl ?_
              refine x_istore_n (L' := [(2, _), (4, _), (3, _), (0, _), (1, _)]) dX12_nextSound_66 rfl (ble rfl) rfl ?_
              refine x_iinc (L' := [(3, _), (2, _), (4, _), (0, _), (1, _)]) (j := 2) (nI (_ + 1)) dX12_nextSound_67 rfl (nI_1 _) (ble rfl) rfl ?_
              refine x_goto 4 dX12_nextSound_70 (by decide) ?_
              refine x_locs (L' := [(3, _), (2, _), (0, _), (1, _)]) [0, 1, 3, 4] rfl ?_
              refine x_eqL ?_ ihi
              rw [nxM_s]
              first | exact absurd rfl c40 | exact absurd c40 (by decide) | (rw [if_neg (fun z => c19 z.1.1)]; done) | (rw [if_neg (fun z => absurd z.1.2 (Int32.not_lt.mpr c28))]; done) | (rw [if_pos ⟨⟨c19, Int32.not_le.mp c28⟩, Or.inl c45⟩] <;> rfl) | (rw [if_pos ⟨⟨c19, Int32.not_le.mp c28⟩, Or.inr (Int32.not_le.mp c54)⟩] <;> rfl) | (rw [if_neg (fun z => z.2.elim c45 (fun y => absurd y (Int32.not_lt.mpr c54)))]; done)
            · first | refine x_aload_n 3 dX12_nextSound_57 rfl rfl ?_ | refine x_aload_nN 3 dX12_nextSound_57 rfl rfl ?_
              refine x_iload_n 1 dX12_nextSound_58 rfl rfl ?_
              refine x_cV1 (As := [.int _]) (ct_X12_soundOf ok (i := i) (by omega) (AP i (by omega))) vX12_194 rfl (x_recv (by with_reducible repeat first | assumption | exact mH_0 ok | exact mH_1 | exact hset_s | refine mH_o (by first | assumption | exact nA ok (by omega) (by omega) (by omega)) (by first | assumption | exact nA ok (by omega) (by omega) (by omega)) ?_ | refine hget_n (by first | assumption | exact Ne.symm (by assumption) | exact nA ok (by omega) (by omega) (by omega)) ?_) rfl) rfl ⟨ble rfl, ble rfl⟩ (ble rfl) dX12_nextSound_59 rfl ?_
              refine x_goto 66 dX12_nextSound_62 (by decide) ?_
              refine x_istore_n (L' := [(2, _), (4, _), (3, _), (0, _), (1, _)]) dX12_nextSound_66 rfl (ble rfl) rfl ?_
              refine x_iinc (L' := [(3, _), (2, _), (4, _), (0, _), (1, _)]) (j := 2) (nI (_ + 1)) dX12_nextSound_67 rfl (nI_1 _) (ble rfl) rfl ?_
              refine x_goto 4 dX12_nextSound_70 (by decide) ?_
              refine x_locs (L' := [(3, _), (2, _), (0, _), (1, _)]) [0, 1, 3, 4] rfl ?_
              refine x_eqL ?_ ihi
              rw [nxM_s]
              first | exact absurd rfl c40 | exact absurd c40 (by decide) | (rw [if_neg (fun z => c19 z.1.1)]; done) | (rw [if_neg (fun z => absurd z.1.2 (Int32.not_lt.mpr c28))]; done) | (rw [if_pos ⟨⟨c19, Int32.not_le.mp c28⟩, Or.inl c45⟩] <;> rfl) | (rw [if_pos ⟨⟨c19, Int32.not_le.mp c28⟩, Or.inr (Int32.not_le.mp c54)⟩] <;> rfl) | (rw [if_neg (fun z => z.2.elim c45 (fun y => absurd y (Int32.not_lt.mpr c54)))]; done)
set_option maxRecDepth 100000 in
set_option maxHeartbeats 1000000 in
theorem ct_X12_alike {l : Launch} {G : Gl} {h : Hp} {sv rem typ err lin why wha beh its siz att wro tol : Int32} {N : Nat → Int32} (ok : Ok G) {ns np no : Nat} (A : RowA N ns np no) : CtR l G mX12_alike 10 [.ref (Ad G 20)] (mH G h (eMd G sv rem typ err lin why wha beh its siz att wro tol) N) (some (.int (sm (fun a => sm (alM N a) (np - (a + 1))) np))) (mH G h (eMd G sv rem typ err lin why wha beh its siz att wro tol) N) := by
  have A0 := A
  obtain ⟨a2, a3, a4, b2, b3, b4, AP, AO⟩ := A
  refine Ct.of (L := [(0, _)]) (by decide) (ble rfl) rfl ?_
  refine x_iconst (v := 0) dX12_alike_0 rfl ?_
  refine x_istore_n (L' := [(1, _), (0, _)]) dX12_alike_1 rfl (ble rfl) rfl ?_
  refine x_iconst (v := 0) dX12_alike_2 rfl ?_
  refine x_istore_n (L' := [(2, _), (1, _), (0, _)]) dX12_alike_3 rfl (ble rfl) rfl ?_
  refine x_locs (L' := [(2, _), (1, _), (0, _)]) [0, 1, 2] rfl ?_
  refine dn (P := fun a => XX l G mX12_alike (Rm 10 0 0) (KQ G (Rm 10 0 0) (fun w h' => w = some (.int (sm (fun a => sm (alM N a) (np - (a + 1))) np)) ∧ h' = (mH G h (eMd G sv rem typ err lin why wha beh its siz att wro tol) N))) 0 0 4 [(2, .int (nI a)), (1, .int (sm (fun a => sm (alM N a) (np - (a + 1))) a)), (0, .ref (Ad G 20))] [] (mH G h (eMd G sv rem typ err lin why wha beh its siz att wro tol) N)) (n := np) ?_ (fun a ha iha => ?_)
  · refine x_iload_n 0 dX12_alike_4 rfl rfl ?_
    first | refine x_aload_n 2 dX12_alike_5 rfl rfl ?_ | refine x_aload_nN 2 dX12_alike_5 rfl rfl ?_
    refine x_get fX12_9 rfl dX12_alike_6 (by with_reducible repeat first | assumption | exact mH_0 ok | exact mH_1 | exact hset_s | refine mH_o (by first | assumption | exact nA ok (by omega) (by omega) (by omega)) (by first | assumption | exact nA ok (by omega) (by omega) (by omega)) ?_ | refine hget_n (by first | assumption | exact Ne.symm (by assumption) | exact nA ok (by omega) (by omega) (by omega)) ?_) (by rfl) ?_
    refine x_iconst (v := 3) dX12_alike_9 rfl ?_
    refine x_mald (i := 3) (by first | exact Eq.refl (nI _) | exact ix_p _ _ | exact ix_o _ _ | exact ix_s _ | exact ix_s1 _ _ | (rw [ix_s]; exact nI_add _ _) | exact nI_add _ 1 | exact nI_add _ 2 | exact nI_add _ 3 | exact nI_add _ 4 | (rw [ix_o0]; exact nI_add _ 3) | (rw [ix_o0]; exact nI_add _ 4) | (rw [ix_o0]; exact nI_add _ _) | (rw [ix_o0]; exact (nI_add _ 3).trans (congrArg nI (by omega))) | (rw [ix_o0]; exact (nI_add _ 4).trans (congrArg nI (by omega))) | exact (nI_add _ 1).trans (congrArg nI (by omega)) | exact (nI_add _ 2).trans (congrArg nI (by omega)) | exact (nI_add _ 3).trans (congrArg nI (by omega)) | exact (nI_add _ 4).trans (congrArg nI (by omega))) dX12_alike_10 (by omega) rfl ?_
    refine x_icmp_ge 73 dX12_alike_11 (by decide) (fun _ => ?_) (fun z => by first | exact absurd (by rw [a3]; exact Int32.le_refl _) z | exact absurd z (by rw [a3]; exact Int32.le_refl _))
    refine x_iload_n 1 dX12_alike_73 rfl rfl ?_
    refine x_iret rfl dX12_alike_74 ?_
    exact ⟨rfl, rfl⟩
  · refine x_iload_n 0 dX12_alike_4 rfl rfl ?_
    first | refine x_aload_n 2 dX12_alike_5 rfl rfl ?_ | refine x_aload_nN 2 dX12_alike_5 rfl rfl ?_
    refine x_get fX12_9 rfl dX12_alike_6 (by with_reducible repeat first | assumption | exact mH_0 ok | exact mH_1 | exact hset_s | refine mH_o (by first | assumption | exact nA ok (by omega) (by omega) (by omega)) (by first | assumption | exact nA ok (by omega) (by omega) (by omega)) ?_ | refine hget_n (by first | assumption | exact Ne.symm (by assumption) | exact nA ok (by omega) (by omega) (by omega)) ?_) (by rfl) ?_
    refine x_iconst (v := 3) dX12_alike_9 rfl ?_
    refine x_mald (i := 3) (by first | exact Eq.refl (nI _) | exact ix_p _ _ | exact ix_o _ _ | exact ix_s _ | exact ix_s1 _ _ | (rw [ix_s]; exact nI_add _ _) | exact nI_add _ 1 | exact nI_add _ 2 | exact nI_add _ 3 | exact nI_add _ 4 | (rw [ix_o0]; exact nI_add _ 3) | (rw [ix_o0]; exact nI_add _ 4) | (rw [ix_o0]; exact nI_add _ _) | (rw [ix_o0]; exact (nI_add _ 3).trans (congrArg nI (by omega))) | (rw [ix_o0]; exact (nI_add _ 4).trans (congrArg nI (by omega))) | exact (nI_add _ 1).trans (congrArg nI (by omega)) | exact (nI_add _ 2).trans (congrArg nI (by omega)) | exact (nI_add _ 3).trans (congrArg nI (by omega)) | exact (nI_add _ 4).trans (congrArg nI (by omega))) dX12_alike_10 (by omega) rfl ?_
    refine x_icmp_ge 73 dX12_alike_11 (by decide) (fun z => by first | exact absurd z (by rw [a3]; exact nI_ge ha (by omega)) | exact absurd (by rw [a3]; exact nI_ge ha (by omega)) z) (fun _ => ?_)
    refine x_iload_n 0 dX12_alike_14 rfl rfl ?_
    refine x_iconst (v := 1) dX12_alike_15 rfl ?_
    refine x_iadd dX12_alike_16 ?_
    rw [nI_1]
    refine x_istore_n (L' := [(3, _), (2, _), (1, _), (0, _)]) dX12_alike_17 rfl (ble rfl) rfl ?_
    refine x_locs (L' := [(3, _), (1, _), (0, _), (2, _)]) [0, 2, 3, 1] rfl ?_
    refine dn (P := fun i => XX l G mX12_alike (Rm 10 0 0) (KQ G (Rm 10 0 0) (fun w h' => w = some (.int (sm (fun a => sm (alM N a) (np - (a + 1))) np)) ∧ h' = (mH G h (eMd G sv rem typ err lin why wha beh its siz att wro tol) N))) 0 0 18 [(3, .int (nI (a + 1 + i))), (1, .int (sm2 (alM N a) (sm (fun a => sm (alM N a) (np - (a + 1))) a) i)), (0, .ref (Ad G 20)), (2, .int (nI a))] [] (mH G h (eMd G sv rem typ err lin why wha beh its siz att wro tol) N)) (n := np - (a + 1)) ?_ (fun i hi ihi => ?_)
    · refine x_iload_n 0 dX12_alike_18 rfl rfl ?_
      first | refine x_aload_n 2 dX12_alike_19 rfl rfl ?_ | refine x_aload_nN 2 dX12_alike_19 rfl rfl ?_
      refine x_get fX12_9 rfl dX12_alike_20 (by with_reducible repeat first | assumption | exact mH_0 ok | exact mH_1 | exact hset_s | refine mH_o (by first | assumption | exact nA ok (by omega) (by omega) (by omega)) (by first | assumption | exact nA ok (by omega) (by omega) (by omega)) ?_ | refine hget_n (by first | assumption | exact Ne.symm (by assumption) | exact nA ok (by omega) (by omega) (by omega)) ?_) (by rfl) ?_
      refine x_iconst (v := 3) dX12_alike_23 rfl ?_
      refine x_mald (i := 3) (by first | exact Eq.refl (nI _) | exact ix_p _ _ | exact ix_o _ _ | exact ix_s _ | exact ix_s1 _ _ | (rw [ix_s]; exact nI_add _ _) | exact nI_add _ 1 | exact nI_add _ 2 | exact nI_add _ 3 | exact nI_add _ 4 | (rw [ix_o0]; exact nI_add _ 3) | (rw [ix_o0]; exact nI_add _ 4) | (rw [ix_o0]; exact nI_add _ _) | (rw [ix_o0]; exact (nI_add _ 3).trans (congrArg nI (by omega))) | (rw [ix_o0]; exact (nI_add _ 4).trans (congrArg nI (by omega))) | exact (nI_add _ 1).trans (congrArg nI (by omega)) | exact (nI_add _ 2).trans (congrArg nI (by omega)) | exact (nI_add _ 3).trans (congrArg nI (by omega)) | exact (nI_add _ 4).trans (congrArg nI (by omega))) dX12_alike_24 (by omega) rfl ?_
      refine x_icmp_ge 67 dX12_alike_25 (by decide) (fun _ => ?_) (fun z => by first | exact absurd (by rw [a3, show a + 1 + (np - (a + 1)) = np by omega]; exact Int32.le_refl _) z | exact absurd z (by rw [a3, show a + 1 + (np - (a + 1)) = np by omega]; exact Int32.le_refl _))
      refine x_iinc (L' := [(2, _), (3, _), (1, _), (0, _)]) (j := 3) (nI (_ + 1)) dX12_alike_67 rfl (nI_1 _) (ble rfl) rfl ?_
      refine x_goto 4 dX12_alike_70 (by decide) ?_
      refine x_locs (L' := [(2, _), (1, _), (0, _)]) [0, 2, 3] rfl ?_
      refine x_eqL ?_ iha
      rw [sm_s, sm2_e]
    · refine x_iload_n 0 dX12_alike_18 rfl rfl ?_
      first | refine x_aload_n 2 dX12_alike_19 rfl rfl ?_ | refine x_aload_nN 2 dX12_alike_19 rfl rfl ?_
      refine x_get fX12_9 rfl dX12_alike_20 (by with_reducible repeat first | assumption | exact mH_0 ok | exact mH_1 | exact hset_s | refine mH_o (by first | assumption | exact nA ok (by omega) (by omega) (by omega)) (by first | assumption | exact nA ok (by omega) (by omega) (by omega)) ?_ | refine hget_n (by first | assumption | exact Ne.symm (by assumption) | exact nA ok (by omega) (by omega) (by omega)) ?_) (by rfl) ?_
      refine x_iconst (v := 3) dX12_alike_23 rfl ?_
      refine x_mald (i := 3) (by first | exact Eq.refl (nI _) | exact ix_p _ _ | exact ix_o _ _ | exact ix_s _ | exact ix_s1 _ _ | (rw [ix_s]; exact nI_add _ _) | exact nI_add _ 1 | exact nI_add _ 2 | exact nI_add _ 3 | exact nI_add _ 4 | (rw [ix_o0]; exact nI_add _ 3) | (rw [ix_o0]; exact nI_add _ 4) | (rw [ix_o0]; exact nI_add _ _) | (rw [ix_o0]; exact (nI_add _ 3).trans (congrArg nI (by omega))) | (rw [ix_o0]; exact (nI_add _ 4).trans (congrArg nI (by omega))) | exact (nI_add _ 1).trans (congrArg nI (by omega)) | exact (nI_add _ 2).trans (congrArg nI (by omega)) | exact (nI_add _ 3).trans (congrArg nI (by omega)) | exact (nI_add _ 4).trans (congrArg nI (by omega))) dX12_alike_24 (by omega) rfl ?_
      refine x_icmp_ge 67 dX12_alike_25 (by decide) (fun z => by first | exact absurd z (by rw [a3]; exact nI_ge (by omega) (by omega)) | exact absurd (by rw [a3]; exact nI_ge (by omega) (by omega)) z) (fun _ => ?_)
      refine x_iload_n 1 dX12_alike_28 rfl rfl ?_
      first | refine x_aload_n 2 dX12_alike_29 rfl rfl ?_ | refine x_aload_nN 2 dX12_alike_29 rfl rfl ?_
      refine x_iload_n 3 dX12_alike_30 rfl rfl ?_
      refine x_cV1 (As := [.int _]) (ct_X12_isSold ok (i := a) (by omega)) vX12_132 rfl (x_recv (by with_reducible repeat first | assumption | exact mH_0 ok | exact mH_1 | exact hset_s | refine mH_o (by first | assumption | exact nA ok (by omega) (by omega) (by omega)) (by first | assumption | exact nA ok (by omega) (by omega) (by omega)) ?_ | refine hget_n (by first | assumption | exact Ne.symm (by assumption) | exact nA ok (by omega) (by omega) (by omega)) ?_) rfl) rfl ⟨ble rfl, ble rfl⟩ (ble rfl) dX12_alike_31 rfl ?_
      refine x_if_ne 58 dX12_alike_34 (by decide) (fun c34 => ?_) (fun c34 => ?_)
      · refine x_iconst (v := 0) dX12_alike_58 rfl ?_
        refine x_iadd dX12_alike_59 ?_
        refine x_istore_n (L' := [(1, _), (3, _), (0, _), (2, _)]) dX12_alike_60 rfl (ble rfl) rfl ?_
        refine x_iinc (L' := [(3, _), (1, _), (0, _), (2, _)]) (j := 1) (nI (_ + 1)) dX12_alike_61 rfl (nI_1 _) (ble rfl) rfl ?_
        refine x_goto 18 dX12_alike_64 (by decide) ?_
        refine x_locs (L' := [(3, _), (1, _), (0, _), (2, _)]) [0, 1, 2, 3] rfl ?_
        refine x_eqL ?_ ihi
        rw [sm2_s]
        first | (rw [show alM N a i = 0 from if_neg (fun z => c34 z.1)] <;> rfl) | (rw [show alM N a i = 0 from if_neg (fun z => c42 z.2.1)] <;> rfl) | (rw [show alM N a i = 0 from if_neg (fun z => z.2.2 c51)] <;> rfl) | (rw [show alM N a i = 1 from if_pos ⟨c34, c42, c51⟩] <;> rfl)
      · first | refine x_aload_n 2 dX12_alike_37 rfl rfl ?_ | refine x_aload_nN 2 dX12_alike_37 rfl rfl ?_
        refine x_iload_n 0 dX12_alike_38 rfl rfl ?_
        refine x_cV1 (As := [.int _]) (ct_X12_isSold ok (i := (a + 1 + i)) (by omega)) vX12_132 rfl (x_recv (by with_reducible repeat first | assumption | exact mH_0 ok | exact mH_1 | exact hset_s | refine mH_o (by first | assumption | exact nA ok (by omega) (by omega) (by omega)) (by first | assumption | exact nA ok (by omega) (by omega) (by omega)) ?_ | refine hget_n (by first | assumption | exact Ne.symm (by assumption) | exact nA ok (by omega) (by omega) (by omega)) ?_) rfl) rfl ⟨ble rfl, ble rfl⟩ (ble rfl) dX12_alike_39 rfl ?_
        refine x_if_ne 58 dX12_alike_42 (by decide) (fun c42 => ?_) (fun c42 => ?_)
        · refine x_iconst (v := 0) dX12_alike_58 rfl ?_
          refine x_iadd dX12_alike_59 ?_
          refine x_istore_n (L' := [(1, _), (3, _), (0, _), (2, _)]) dX12_alike_60 rfl (ble rfl) rfl ?_
          refine x_iinc (L' := [(3, _), (1, _), (0, _), (2, _)]) (j := 1) (nI (_ + 1)) dX12_alike_61 rfl (nI_1 _) (ble rfl) rfl ?_
          refine x_goto 18 dX12_alike_64 (by decide) ?_
          refine x_locs (L' := [(3, _), (1, _), (0, _), (2, _)]) [0, 1, 2, 3] rfl ?_
          refine x_eqL ?_ ihi
          rw [sm2_s]
          first | (rw [show alM N a i = 0 from if_neg (fun z => c34 z.1)] <;> rfl) | (rw [show alM N a i = 0 from if_neg (fun z => c42 z.2.1)] <;> rfl) | (rw [show alM N a i = 0 from if_neg (fun z => z.2.2 c51)] <;> rfl) | (rw [show alM N a i = 1 from if_pos ⟨c34, c42, c51⟩] <;> rfl)
        · first | refine x_aload_n 2 dX12_alike_45 rfl rfl ?_ | refine x_aload_nN 2 dX12_alike_45 rfl rfl ?_
          refine x_iload_n 3 dX12_alike_46 rfl rfl ?_
          refine x_iload_n 0 dX12_alike_47 rfl rfl ?_
          refine x_cV1 (As := [.int _, .int _]) (ct_isAlike_ii ok A0 (i := a) (j := a + 1 + i) (by omega) (by omega)) vX12_203 rfl (x_recv (by with_reducible repeat first | assumption | exact mH_0 ok | exact mH_1 | exact hset_s | refine mH_o (by first | assumption | exact nA ok (by omega) (by omega) (by omega)) (by first | assumption | exact nA ok (by omega) (by omega) (by omega)) ?_ | refine hget_n (by first | assumption | exact Ne.symm (by assumption) | exact nA ok (by omega) (by omega) (by omega)) ?_) rfl) rfl ⟨ble rfl, ble rfl⟩ (ble rfl) dX12_alike_48 rfl ?_
          refine x_if_eq 58 dX12_alike_51 (by decide) (fun c51 => ?_) (fun c51 => ?_)
          · refine x_iconst (v := 0) dX12_alike_58 rfl ?_
            refine x_iadd dX12_alike_59 ?_
            refine x_istore_n (L' := [(1, _), (3, _), (0, _), (2, _)]) dX12_alike_60 rfl (ble rfl) rfl ?_
            refine x_iinc (L' := [(3, _), (1, _), (0, _), (2, _)]) (j := 1) (nI (_ + 1)) dX12_alike_61 rfl (nI_1 _) (ble rfl) rfl ?_
            refine x_goto 18 dX12_alike_64 (by decide) ?_
            refine x_locs (L' := [(3, _), (1, _), (0, _), (2, _)]) [0, 1, 2, 3] rfl ?_
            refine x_eqL ?_ ihi
            rw [sm2_s]
            first | (rw [show alM N a i = 0 from if_neg (fun z => c34 z.1)] <;> rfl) | (rw [show alM N a i = 0 from if_neg (fun z => c42 z.2.1)] <;> rfl) | (rw [show alM N a i = 0 from if_neg (fun z => z.2.2 c51)] <;> rfl) | (rw [show alM N a i = 1 from if_pos ⟨c34, c42, c51⟩] <;> rfl)
          · refine x_iconst (v := 1) dX12_alike_54 rfl ?_
            refine x_goto 59 dX12_alike_55 (by decide) ?_
            refine x_iadd dX12_alike_59 ?_
            refine x_istore_n (L' := [(1, _), (3, _), (0, _), (2, _)]) dX12_alike_60 rfl (ble rfl) rfl ?_
            refine x_iinc (L' := [(3, _), (1, _), (0, _), (2, _)]) (j := 1) (nI (_ + 1)) dX12_alike_61 rfl (nI_1 _) (ble rfl) rfl ?_
            refine x_goto 18 dX12_alike_64 (by decide) ?_
            refine x_locs (L' := [(3, _), (1, _), (0, _), (2, _)]) [0, 1, 2, 3] rfl ?_
            refine x_eqL ?_ ihi
            rw [sm2_s]
            first | (rw [show alM N a i = 0 from if_neg (fun z => c34 z.1)] <;> rfl) | (rw [show alM N a i = 0 from if_neg (fun z => c42 z.2.1)] <;> rfl) | (rw [show alM N a i = 0 from if_neg (fun z => z.2.2 c51)] <;> rfl) | (rw [show alM N a i = 1 from if_pos ⟨c34, c42, c51⟩] <;> rfl)
set_option maxRecDepth 100000 in
set_option maxHeartbeats 1000000 in
theorem ct_X12_ranked {l : Launch} {G : Gl} {h : Hp} {sv rem typ err lin why wha beh its siz att wro tol : Int32} {N : Nat → Int32} (ok : Ok G) {ns np no : Nat} (A : RowA N ns np no) (x : Int32) : CtR l G mX12_ranked 10 [.ref (Ad G 20), .int x] (mH G h (eMd G sv rem typ err lin why wha beh its siz att wro tol) N) (some (.int (fdM N np x np))) (mH G h (eMd G sv rem typ err lin why wha beh its siz att wro tol) N) := by
  have A0 := A
  obtain ⟨a2, a3, a4, b2, b3, b4, AP, AO⟩ := A
  refine Ct.of (L := [(0, _), (1, _)]) (by decide) (ble rfl) rfl ?_
  refine x_iconst (v := -1) dX12_ranked_0 rfl ?_
  refine x_istore_n (L' := [(2, _), (0, _), (1, _)]) dX12_ranked_1 rfl (ble rfl) rfl ?_
  refine x_iconst (v := 0) dX12_ranked_2 rfl ?_
  refine x_istore_n (L' := [(3, _), (2, _), (0, _), (1, _)]) dX12_ranked_3 rfl (ble rfl) rfl ?_
  refine x_locs (L' := [(3, _), (2, _), (0, _), (1, _)]) [0, 1, 2, 3] rfl ?_
  refine dn (P := fun p => XX l G mX12_ranked (Rm 10 0 0) (KQ G (Rm 10 0 0) (fun w h' => w = some (.int (fdM N np x np)) ∧ h' = (mH G h (eMd G sv rem typ err lin why wha beh its siz att wro tol) N))) 0 0 4 [(3, .int (nI p)), (2, .int (fdM N np x p)), (0, .ref (Ad G 20)), (1, .int x)] [] (mH G h (eMd G sv rem typ err lin why wha beh its siz att wro tol) N)) (n := np) ?_ (fun p hp ihp => ?_)
  · refine x_iload_n 0 dX12_ranked_4 rfl rfl ?_
    first | refine x_aload_n 2 dX12_ranked_5 rfl rfl ?_ | refine x_aload_nN 2 dX12_ranked_5 rfl rfl ?_
    refine x_get fX12_9 rfl dX12_ranked_6 (by with_reducible repeat first | assumption | exact mH_0 ok | exact mH_1 | exact hset_s | refine mH_o (by first | assumption | exact nA ok (by omega) (by omega) (by omega)) (by first | assumption | exact nA ok (by omega) (by omega) (by omega)) ?_ | refine hget_n (by first | assumption | exact Ne.symm (by assumption) | exact nA ok (by omega) (by omega) (by omega)) ?_) (by rfl) ?_
    refine x_iconst (v := 3) dX12_ranked_9 rfl ?_
    refine x_mald (i := 3) (by first | exact Eq.refl (nI _) | exact ix_p _ _ | exact ix_o _ _ | exact ix_s _ | exact ix_s1 _ _ | (rw [ix_s]; exact nI_add _ _) | exact nI_add _ 1 | exact nI_add _ 2 | exact nI_add _ 3 | exact nI_add _ 4 | (rw [ix_o0]; exact nI_add _ 3) | (rw [ix_o0]; exact nI_add _ 4) | (rw [ix_o0]; exact nI_add _ _) | (rw [ix_o0]; exact (nI_add _ 3).trans (congrArg nI (by omega))) | (rw [ix_o0]; exact (nI_add _ 4).trans (congrArg nI (by omega))) | exact (nI_add _ 1).trans (congrArg nI (by omega)) | exact (nI_add _ 2).trans (congrArg nI (by omega)) | exact (nI_add _ 3).trans (congrArg nI (by omega)) | exact (nI_add _ 4).trans (congrArg nI (by omega))) dX12_ranked_10 (by omega) rfl ?_
    refine x_icmp_ge 118 dX12_ranked_11 (by decide) (fun _ => ?_) (fun z => by first | exact absurd (by rw [a3]; exact Int32.le_refl _) z | exact absurd z (by rw [a3]; exact Int32.le_refl _))
    refine x_iload_n 1 dX12_ranked_118 rfl rfl ?_
    refine x_iret rfl dX12_ranked_119 ?_
    exact ⟨rfl, rfl⟩
  · refine x_iload_n 0 dX12_ranked_4 rfl rfl ?_
    first | refine x_aload_n 2 dX12_ranked_5 rfl rfl ?_ | refine x_aload_nN 2 dX12_ranked_5 rfl rfl ?_
    refine x_get fX12_9 rfl dX12_ranked_6 (by with_reducible repeat first | assumption | exact mH_0 ok | exact mH_1 | exact hset_s | refine mH_o (by first | assumption | exact nA ok (by omega) (by omega) (by omega)) (by first | assumption | exact nA ok (by omega) (by omega) (by omega)) ?_ | refine hget_n (by first | assumption | exact Ne.symm (by assumption) | exact nA ok (by omega) (by omega) (by omega)) ?_) (by rfl) ?_
    refine x_iconst (v := 3) dX12_ranked_9 rfl ?_
    refine x_mald (i := 3) (by first | exact Eq.refl (nI _) | exact ix_p _ _ | exact ix_o _ _ | exact ix_s _ | exact ix_s1 _ _ | (rw [ix_s]; exact nI_add _ _) | exact nI_add _ 1 | exact nI_add _ 2 | exact nI_add _ 3 | exact nI_add _ 4 | (rw [ix_o0]; exact nI_add _ 3) | (rw [ix_o0]; exact nI_add _ 4) | (rw [ix_o0]; exact nI_add _ _) | (rw [ix_o0]; exact (nI_add _ 3).trans (congrArg nI (by omega))) | (rw [ix_o0]; exact (nI_add _ 4).trans (congrArg nI (by omega))) | exact (nI_add _ 1).trans (congrArg nI (by omega)) | exact (nI_add _ 2).trans (congrArg nI (by omega)) | exact (nI_add _ 3).trans (congrArg nI (by omega)) | exact (nI_add _ 4).trans (congrArg nI (by omega))) dX12_ranked_10 (by omega) rfl ?_
    refine x_icmp_ge 118 dX12_ranked_11 (by decide) (fun z => by first | exact absurd z (by rw [a3]; exact nI_ge hp (by omega)) | exact absurd (by rw [a3]; exact nI_ge hp (by omega)) z) (fun _ => ?_)
    refine x_iconst (v := 0) dX12_ranked_14 rfl ?_
    refine x_istore (L' := [(4, _), (3, _), (2, _), (0, _), (1, _)]) dX12_ranked_15 (ble rfl) rfl ?_
    refine x_iconst (v := 0) dX12_ranked_17 rfl ?_
    refine x_istore (L' := [(5, _), (4, _), (3, _), (2, _), (0, _), (1, _)]) dX12_ranked_18 (ble rfl) rfl ?_
    refine x_locs (L' := [(5, _), (4, _), (0, _), (1, _), (2, _), (3, _)]) [0, 1, 4, 5, 3, 2] rfl ?_
    refine dn (P := fun i => XX l G mX12_ranked (Rm 10 0 0) (KQ G (Rm 10 0 0) (fun w h' => w = some (.int (fdM N np x np)) ∧ h' = (mH G h (eMd G sv rem typ err lin why wha beh its siz att wro tol) N))) 0 0 20 [(5, .int (nI i)), (4, .int (sm (rkM N p) i)), (0, .ref (Ad G 20)), (1, .int x), (2, .int (fdM N np x p)), (3, .int (nI p))] [] (mH G h (eMd G sv rem typ err lin why wha beh its siz att wro tol) N)) (n := np) ?_ (fun i hi ihi => ?_)
    · refine x_iload 0 dX12_ranked_20 rfl ?_
      first | refine x_aload_n 2 dX12_ranked_22 rfl rfl ?_ | refine x_aload_nN 2 dX12_ranked_22 rfl rfl ?_
      refine x_get fX12_9 rfl dX12_ranked_23 (by with_reducible repeat first | assumption | exact mH_0 ok | exact mH_1 | exact hset_s | refine mH_o (by first | assumption | exact nA ok (by omega) (by omega) (by omega)) (by first | assumption | exact nA ok (by omega) (by omega) (by omega)) ?_ | refine hget_n (by first | assumption | exact Ne.symm (by assumption) | exact nA ok (by omega) (by omega) (by omega)) ?_) (by rfl) ?_
      refine x_iconst (v := 3) dX12_ranked_26 rfl ?_
      refine x_mald (i := 3) (by first | exact Eq.refl (nI _) | exact ix_p _ _ | exact ix_o _ _ | exact ix_s _ | exact ix_s1 _ _ | (rw [ix_s]; exact nI_add _ _) | exact nI_add _ 1 | exact nI_add _ 2 | exact nI_add _ 3 | exact nI_add _ 4 | (rw [ix_o0]; exact nI_add _ 3) | (rw [ix_o0]; exact nI_add _ 4) | (rw [ix_o0]; exact nI_add _ _) | (rw [ix_o0]; exact (nI_add _ 3).trans (congrArg nI (by omega))) | (rw [ix_o0]; exact (nI_add _ 4).trans (congrArg nI (by omega))) | exact (nI_add _ 1).trans (congrArg nI (by omega)) | exact (nI_add _ 2).trans (congrArg nI (by omega)) | exact (nI_add _ 3).trans (congrArg nI (by omega)) | exact (nI_add _ 4).trans (congrArg nI (by omega))) dX12_ranked_27 (by omega) rfl ?_
      refine x_icmp_ge 92 dX12_ranked_28 (by decide) (fun _ => ?_) (fun z => by first | exact absurd (by rw [a3]; exact Int32.le_refl _) z | exact absurd z (by rw [a3]; exact Int32.le_refl _))
      first | refine x_aload_n 2 dX12_ranked_92 rfl rfl ?_ | refine x_aload_nN 2 dX12_ranked_92 rfl rfl ?_
      refine x_iload_n 5 dX12_ranked_93 rfl rfl ?_
      refine x_cV1 (As := [.int _]) (ct_X12_isSold ok (i := p) (by omega)) vX12_132 rfl (x_recv (by with_reducible repeat first | assumption | exact mH_0 ok | exact mH_1 | exact hset_s | refine mH_o (by first | assumption | exact nA ok (by omega) (by omega) (by omega)) (by first | assumption | exact nA ok (by omega) (by omega) (by omega)) ?_ | refine hget_n (by first | assumption | exact Ne.symm (by assumption) | exact nA ok (by omega) (by omega) (by omega)) ?_) rfl) rfl ⟨ble rfl, ble rfl⟩ (ble rfl) dX12_ranked_94 rfl ?_
      refine x_if_ne 110 dX12_ranked_97 (by decide) (fun c97 => ?_) (fun c97 => ?_)
      · refine x_iload_n 4 dX12_ranked_110 rfl rfl ?_
        refine x_istore_n (L' := [(2, _), (5, _), (4, _), (0, _), (1, _), (3, _)]) dX12_ranked_111 rfl (ble rfl) rfl ?_
        refine x_iinc (L' := [(3, _), (2, _), (5, _), (4, _), (0, _), (1, _)]) (j := 5) (nI (_ + 1)) dX12_ranked_112 rfl (nI_1 _) (ble rfl) rfl ?_
        refine x_goto 4 dX12_ranked_115 (by decide) ?_
        refine x_locs (L' := [(3, _), (2, _), (0, _), (1, _)]) [0, 1, 4, 5] rfl ?_
        refine x_eqL ?_ ihp
        rw [fdM_s]
        first | (rw [if_neg (fun z => c97 z.1)]; done) | (rw [if_neg (fun z => c103 z.2)]; done) | (rw [if_pos ⟨c97, c103⟩]; done)
      · refine x_iload 1 dX12_ranked_100 rfl ?_
        refine x_iload_n 3 dX12_ranked_102 rfl rfl ?_
        refine x_icmp_ne 110 dX12_ranked_103 (by decide) (fun c103 => ?_) (fun c103 => ?_)
        · refine x_iload_n 4 dX12_ranked_110 rfl rfl ?_
          refine x_istore_n (L' := [(2, _), (5, _), (4, _), (0, _), (1, _), (3, _)]) dX12_ranked_111 rfl (ble rfl) rfl ?_
          refine x_iinc (L' := [(3, _), (2, _), (5, _), (4, _), (0, _), (1, _)]) (j := 5) (nI (_ + 1)) dX12_ranked_112 rfl (nI_1 _) (ble rfl) rfl ?_
          refine x_goto 4 dX12_ranked_115 (by decide) ?_
          refine x_locs (L' := [(3, _), (2, _), (0, _), (1, _)]) [0, 1, 4, 5] rfl ?_
          refine x_eqL ?_ ihp
          rw [fdM_s]
          first | (rw [if_neg (fun z => c97 z.1)]; done) | (rw [if_neg (fun z => c103 z.2)]; done) | (rw [if_pos ⟨c97, c103⟩]; done)
        · refine x_iload_n 5 dX12_ranked_106 rfl rfl ?_
          refine x_goto 111 dX12_ranked_107 (by decide) ?_
          refine x_istore_n (L' := [(2, _), (5, _), (4, _), (0, _), (1, _), (3, _)]) dX12_ranked_111 rfl (ble rfl) rfl ?_
          refine x_iinc (L' := [(3, _), (2, _), (5, _), (4, _), (0, _), (1, _)]) (j := 5) (nI (_ + 1)) dX12_ranked_112 rfl (nI_1 _) (ble rfl) rfl ?_
          refine x_goto 4 dX12_ranked_115 (by decide) ?_
          refine x_locs (L' := [(3, _), (2, _), (0, _), (1, _)]) [0, 1, 4, 5] rfl ?_
          refine x_eqL ?_ ihp
          rw [fdM_s]
          first | (rw [if_neg (fun z => c97 z.1)]; done) | (rw [if_neg (fun z => c103 z.2)]; done) | (rw [if_pos ⟨c97, c103⟩]; done)
    · refine x_iload 0 dX12_ranked_20 rfl ?_
      first | refine x_aload_n 2 dX12_ranked_22 rfl rfl ?_ | refine x_aload_nN 2 dX12_ranked_22 rfl rfl ?_
      refine x_get fX12_9 rfl dX12_ranked_23 (by with_reducible repeat first | assumption | exact mH_0 ok | exact mH_1 | exact hset_s | refine mH_o (by first | assumption | exact nA ok (by omega) (by omega) (by omega)) (by first | assumption | exact nA ok (by omega) (by omega) (by omega)) ?_ | refine hget_n (by first | assumption | exact Ne.symm (by assumption) | exact nA ok (by omega) (by omega) (by omega)) ?_) (by rfl) ?_
      refine x_iconst (v := 3) dX12_ranked_26 rfl ?_
      refine x_mald (i := 3) (by first | exact Eq.refl (nI _) | exact ix_p _ _ | exact ix_o _ _ | exact ix_s _ | exact ix_s1 _ _ | (rw [ix_s]; exact nI_add _ _) | exact nI_add _ 1 | exact nI_add _ 2 | exact nI_add _ 3 | exact nI_add _ 4 | (rw [ix_o0]; exact nI_add _ 3) | (rw [ix_o0]; exact nI_add _ 4) | (rw [ix_o0]; exact nI_add _ _) | (rw [ix_o0]; exact (nI_add _ 3).trans (congrArg nI (by omega))) | (rw [ix_o0]; exact (nI_add _ 4).trans (congrArg nI (by omega))) | exact (nI_add _ 1).trans (congrArg nI (by omega)) | exact (nI_add _ 2).trans (congrArg nI (by omega)) | exact (nI_add _ 3).trans (congrArg nI (by omega)) | exact (nI_add _ 4).trans (congrArg nI (by omega))) dX12_ranked_27 (by omega) rfl ?_
      refine x_icmp_ge 92 dX12_ranked_28 (by decide) (fun z => by first | exact absurd z (by rw [a3]; exact nI_ge hi (by omega)) | exact absurd (by rw [a3]; exact nI_ge hi (by omega)) z) (fun _ => ?_)
      first | refine x_aload_n 2 dX12_ranked_31 rfl rfl ?_ | refine x_aload_nN 2 dX12_ranked_31 rfl rfl ?_
      refine x_iload 0 dX12_ranked_32 rfl ?_
      refine x_cV1 (As := [.int _]) (ct_X12_soundOf ok (i := i) (by omega) (AP i (by omega))) vX12_194 rfl (x_recv (by with_reducible repeat first | assumption | exact mH_0 ok | exact mH_1 | exact hset_s | refine mH_o (by first | assumption | exact nA ok (by omega) (by omega) (by omega)) (by first | assumption | exact nA ok (by omega) (by omega) (by omega)) ?_ | refine hget_n (by first | assumption | exact Ne.symm (by assumption) | exact nA ok (by omega) (by omega) (by omega)) ?_) rfl) rfl ⟨ble rfl, ble rfl⟩ (ble rfl) dX12_ranked_34 rfl ?_
      first | refine x_aload_n 2 dX12_ranked_37 rfl rfl ?_ | refine x_aload_nN 2 dX12_ranked_37 rfl rfl ?_
      refine x_iload_n 5 dX12_ranked_38 rfl rfl ?_
      refine x_cV1 (As := [.int _]) (ct_X12_soundOf ok (i := p) (by omega) (AP p (by omega))) vX12_194 rfl (x_recv (by with_reducible repeat first | assumption | exact mH_0 ok | exact mH_1 | exact hset_s | refine mH_o (by first | assumption | exact nA ok (by omega) (by omega) (by omega)) (by first | assumption | exact nA ok (by omega) (by omega) (by omega)) ?_ | refine hget_n (by first | assumption | exact Ne.symm (by assumption) | exact nA ok (by omega) (by omega) (by omega)) ?_) rfl) rfl ⟨ble rfl, ble rfl⟩ (ble rfl) dX12_ranked_39 rfl ?_
      refine x_isub dX12_ranked_42 ?_
      refine x_istore (L' := [(6, _), (5, _), (4, _), (0, _), (1, _), (2, _), (3, _)]) dX12_ranked_43 (ble rfl) rfl ?_
      refine x_iload 2 dX12_ranked_45 rfl ?_
      refine x_iload 1 dX12_ranked_47 rfl ?_
      refine x_iload_n 6 dX12_ranked_49 rfl rfl ?_
      refine x_icmp_eq 82 dX12_ranked_50 (by decide) (fun c50 => ?_) (fun c50 => ?_)
      · refine x_iconst (v := 0) dX12_ranked_82 rfl ?_
        refine x_iadd dX12_ranked_83 ?_
        refine x_istore (L' := [(4, _), (6, _), (5, _), (0, _), (1, _), (2, _), (3, _)]) dX12_ranked_84 (ble rfl) rfl ?_
        refine x_iinc (L' := [(5, _), (4, _), (6, _), (0, _), (1, _), (2, _), (3, _)]) (j := 2) (nI (_ + 1)) dX12_ranked_86 rfl (nI_1 _) (ble rfl) rfl ?_
        refine x_goto 20 dX12_ranked_89 (by decide) ?_
        refine x_locs (L' := [(5, _), (4, _), (0, _), (1, _), (2, _), (3, _)]) [0, 1, 3, 4, 5, 6] rfl ?_
        refine x_eqL ?_ ihi
        rw [sm_s]
        first | (rw [show rkM N p i = 0 from if_neg (fun z => z.1 c50)]; done) | (rw [show rkM N p i = 0 from if_neg (fun z => c59 z.2.1)]; done) | (rw [show rkM N p i = 1 from if_pos ⟨c50, c59, Or.inl c64⟩]; done) | (rw [show rkM N p i = 0 from if_neg (fun z => z.2.2.elim c64 (fun y => c69 y.1))]; done) | (rw [show rkM N p i = 0 from if_neg (fun z => z.2.2.elim c64 (fun y => absurd y.2 (Int32.not_lt.mpr c75)))]; done) | (rw [show rkM N p i = 1 from if_pos ⟨c50, c59, Or.inr ⟨c69, Int32.not_le.mp c75⟩⟩]; done)
      · first | refine x_aload_n 3 dX12_ranked_53 rfl rfl ?_ | refine x_aload_nN 3 dX12_ranked_53 rfl rfl ?_
        refine x_iload 1 dX12_ranked_54 rfl ?_
        refine x_cV1 (As := [.int _]) (ct_X12_isSold ok (i := i) (by omega)) vX12_132 rfl (x_recv (by with_reducible repeat first | assumption | exact mH_0 ok | exact mH_1 | exact hset_s | refine mH_o (by first | assumption | exact nA ok (by omega) (by omega) (by omega)) (by first | assumption | exact nA ok (by omega) (by omega) (by omega)) ?_ | refine hget_n (by first | assumption | exact Ne.symm (by assumption) | exact nA ok (by omega) (by omega) (by omega)) ?_) rfl) rfl ⟨ble rfl, ble rfl⟩ (ble rfl) dX12_ranked_56 rfl ?_
        refine x_if_ne 82 dX12_ranked_59 (by decide) (fun c59 => ?_) (fun c59 => ?_)
        · refine x_iconst (v := 0) dX12_ranked_82 rfl ?_
          refine x_iadd dX12_ranked_83 ?_
          refine x_istore (L' := [(4, _), (6, _), (5, _), (0, _), (1, _), (2, _), (3, _)]) dX12_ranked_84 (ble rfl) rfl ?_
          refine x_iinc (L' := [(5, _), (4, _), (6, _), (0, _), (1, _), (2, _), (3, _)]) (j := 2) (nI (_ + 1)) dX12_ranked_86 rfl (nI_1 _) (ble rfl) rfl ?_
          refine x_goto 20 dX12_ranked_89 (by decide) ?_
          refine x_locs (L' := [(5, _), (4, _), (0, _), (1, _), (2, _), (3, _)]) [0, 1, 3, 4, 5, 6] rfl ?_
          refine x_eqL ?_ ihi
          rw [sm_s]
          first | (rw [show rkM N p i = 0 from if_neg (fun z => z.1 c50)]; done) | (rw [show rkM N p i = 0 from if_neg (fun z => c59 z.2.1)]; done) | (rw [show rkM N p i = 1 from if_pos ⟨c50, c59, Or.inl c64⟩]; done) | (rw [show rkM N p i = 0 from if_neg (fun z => z.2.2.elim c64 (fun y => c69 y.1))]; done) | (rw [show rkM N p i = 0 from if_neg (fun z => z.2.2.elim c64 (fun y => absurd y.2 (Int32.not_lt.mpr c75)))]; done) | (rw [show rkM N p i = 1 from if_pos ⟨c50, c59, Or.inr ⟨c69, Int32.not_le.mp c75⟩⟩]; done)
        · refine x_iload 0 dX12_ranked_62 rfl ?_
          refine x_if_gt 78 dX12_ranked_64 (by decide) (fun c64 => ?_) (fun c64 => ?_)
          · refine x_iconst (v := 1) dX12_ranked_78 rfl ?_
            refine x_goto 83 dX12_ranked_79 (by decide) ?_
            refine x_iadd dX12_ranked_83 ?_
            refine x_istore (L' := [(4, _), (6, _), (5, _), (0, _), (1, _), (2, _), (3, _)]) dX12_ranked_84 (ble rfl) rfl ?_
            refine x_iinc (L' := [(5, _), (4, _), (6, _), (0, _), (1, _), (2, _), (3, _)]) (j := 2) (nI (_ + 1)) dX12_ranked_86 rfl (nI_1 _) (ble rfl) rfl ?_
            refine x_goto 20 dX12_ranked_89 (by decide) ?_
            refine x_locs (L' := [(5, _), (4, _), (0, _), (1, _), (2, _), (3, _)]) [0, 1, 3, 4, 5, 6] rfl ?_
            refine x_eqL ?_ ihi
            rw [sm_s]
            first | (rw [show rkM N p i = 0 from if_neg (fun z => z.1 c50)]; done) | (rw [show rkM N p i = 0 from if_neg (fun z => c59 z.2.1)]; done) | (rw [show rkM N p i = 1 from if_pos ⟨c50, c59, Or.inl c64⟩]; done) | (rw [show rkM N p i = 0 from if_neg (fun z => z.2.2.elim c64 (fun y => c69 y.1))]; done) | (rw [show rkM N p i = 0 from if_neg (fun z => z.2.2.elim c64 (fun y => absurd y.2 (Int32.not_lt.mpr c75)))]; done) | (rw [show rkM N p i = 1 from if_pos ⟨c50, c59, Or.inr ⟨c69, Int32.not_le.mp c75⟩⟩]; done)
          · refine x_iload 0 dX12_ranked_67 rfl ?_
            refine x_if_ne 82 dX12_ranked_69 (by decide) (fun c69 => ?_) (fun c69 => ?_)
            · refine x_iconst (v := 0) dX12_ranked_82 rfl ?_
              refine x_iadd dX12_ranked_83 ?_
              refine x_istore (L' := [(4, _), (6, _), (5, _), (0, _), (1, _), (2, _), (3, _)]) dX12_ranked_84 (ble rfl) rfl ?_
              refine x_iinc (L' := [(5, _), (4, _), (6, _), (0, _), (1, _), (2, _), (3, _)]) (j := 2) (nI (_ + 1)) dX12_ranked_86 rfl (nI_1 _) (ble rfl) rfl ?_
              refine x_goto 20 dX12_ranked_89 (by decide) ?_
              refine x_locs (L' := [(5, _), (4, _), (0, _), (1, _), (2, _), (3, _)]) [0, 1, 3, 4, 5, 6] rfl ?_
              refine x_eqL ?_ ihi
              rw [sm_s]
              first | (rw [show rkM N p i = 0 from if_neg (fun z => z.1 c50)]; done) | (rw [show rkM N p i = 0 from if_neg (fun z => c59 z.2.1)]; done) | (rw [show rkM N p i = 1 from if_pos ⟨c50, c59, Or.inl c64⟩]; done) | (rw [show rkM N p i = 0 from if_neg (fun z => z.2.2.elim c64 (fun y => c69 y.1))]; done) | (rw [show rkM N p i = 0 from if_neg (fun z => z.2.2.elim c64 (fun y => absurd y.2 (Int32.not_lt.mpr c75)))]; done) | (rw [show rkM N p i = 1 from if_pos ⟨c50, c59, Or.inr ⟨c69, Int32.not_le.mp c75⟩⟩]; done)
            · refine x_iload 1 dX12_ranked_72 rfl ?_
              refine x_iload_n 6 dX12_ranked_74 rfl rfl ?_
              refine x_icmp_ge 82 dX12_ranked_75 (by decide) (fun c75 => ?_) (fun c75 => ?_)
              · refine x_iconst (v := 0) dX12_ranked_82 rfl ?_
                refine x_iadd dX12_ranked_83 ?_
                refine x_istore (L' := [(4, _), (6, _), (5, _), (0, _), (1, _), (2, _), (3, _)]) dX12_ranked_84 (ble rfl) rfl ?_
                refine x_iinc (L' := [(5, _), (4, _), (6, _), (0, _), (1, _), (2, _), (3, _)]) (j := 2) (nI (_ + 1)) dX12_ranked_86 rfl (nI_1 _) (ble rfl) rfl ?_
                refine x_goto 20 dX12_ranked_89 (by decide) ?_
                refine x_locs (L' := [(5, _), (4, _), (0, _), (1, _), (2, _), (3, _)]) [0, 1, 3, 4, 5, 6] rfl ?_
                refine x_eqL ?_ ihi
                rw [sm_s]
                first | (rw [show rkM N p i = 0 from if_neg (fun z => z.1 c50)]; done) | (rw [show rkM N p i = 0 from if_neg (fun z => c59 z.2.1)]; done) | (rw [show rkM N p i = 1 from if_pos ⟨c50, c59, Or.inl c64⟩]; done) | (rw [show rkM N p i = 0 from if_neg (fun z => z.2.2.elim c64 (fun y => c69 y.1))]; done) | (rw [show rkM N p i = 0 from if_neg (fun z => z.2.2.elim c64 (fun y => absurd y.2 (Int32.not_lt.mpr c75)))]; done) | (rw [show rkM N p i = 1 from if_pos ⟨c50, c59, Or.inr ⟨c69, Int32.not_le.mp c75⟩⟩]; done)
              · refine x_iconst (v := 1) dX12_ranked_78 rfl ?_
                refine x_goto 83 dX12_ranked_79 (by decide) ?_
                refine x_iadd dX12_ranked_83 ?_
                refine x_istore (L' := [(4, _), (6, _), (5, _), (0, _), (1, _), (2, _), (3, _)]) dX12_ranked_84 (ble rfl) rfl ?_
                refine x_iinc (L' := [(5, _), (4, _), (6, _), (0, _), (1, _), (2, _), (3, _)]) (j := 2) (nI (_ + 1)) dX12_ranked_86 rfl (nI_1 _) (ble rfl) rfl ?_
                refine x_goto 20 dX12_ranked_89 (by decide) ?_
                refine x_locs (L' := [(5, _), (4, _), (0, _), (1, _), (2, _), (3, _)]) [0, 1, 3, 4, 5, 6] rfl ?_
                refine x_eqL ?_ ihi
                rw [sm_s]
                first | (rw [show rkM N p i = 0 from if_neg (fun z => z.1 c50)]; done) | (rw [show rkM N p i = 0 from if_neg (fun z => c59 z.2.1)]; done) | (rw [show rkM N p i = 1 from if_pos ⟨c50, c59, Or.inl c64⟩]; done) | (rw [show rkM N p i = 0 from if_neg (fun z => z.2.2.elim c64 (fun y => c69 y.1))]; done) | (rw [show rkM N p i = 0 from if_neg (fun z => z.2.2.elim c64 (fun y => absurd y.2 (Int32.not_lt.mpr c75)))]; done) | (rw [show rkM N p i = 1 from if_pos ⟨c50, c59, Or.inr ⟨c69, Int32.not_le.mp c75⟩⟩]; done)
set_option maxRecDepth 100000 in
set_option maxHeartbeats 1000000 in
theorem ct_X12_nearest {l : Launch} {G : Gl} {h : Hp} {sv rem typ err lin why wha beh its siz att wro tol : Int32} {N : Nat → Int32} (ok : Ok G) {ns np no : Nat} (A : RowA N ns np no) (x : Int32) : CtR l G mX12_nearest 10 [.ref (Ad G 20), .int x] (mH G h (eMd G sv rem typ err lin why wha beh its siz att wro tol) N) (some (.int (if x < 0 ∨ 120 < x then -2 else nrM N x np))) (mH G h (eMd G sv rem typ err lin why wha beh its siz att wro tol) N) := by
  have A0 := A
  obtain ⟨a2, a3, a4, b2, b3, b4, AP, AO⟩ := A
  refine Ct.of (L := [(0, _), (1, _)]) (by decide) (ble rfl) rfl ?_
  refine x_iload_n 1 dX12_nearest_0 rfl rfl ?_
  refine x_iconst (v := 0) dX12_nearest_1 rfl ?_
  refine x_bipush (v := 120) dX12_nearest_2 rfl ?_
  refine x_cS1 (As := [.int _, .int _, .int _]) (ct_X12_isIn _ _ _) vX12_74 rfl rfl ⟨ble rfl, ble rfl⟩ (ble rfl) dX12_nearest_4 rfl ?_
  refine x_if_ne 13 dX12_nearest_7 (by decide) (fun c7 => ?_) (fun c7 => ?_)
  · refine x_bipush (v := -4) dX12_nearest_13 rfl ?_
    refine x_istore_n (L' := [(2, _), (0, _), (1, _)]) dX12_nearest_15 rfl (ble rfl) rfl ?_
    refine x_iconst (v := 0) dX12_nearest_16 rfl ?_
    refine x_istore_n (L' := [(3, _), (2, _), (0, _), (1, _)]) dX12_nearest_17 rfl (ble rfl) rfl ?_
    refine x_locs (L' := [(3, _), (2, _), (0, _), (1, _)]) [0, 1, 2, 3] rfl ?_
    refine dn (P := fun i => XX l G mX12_nearest (Rm 10 0 0) (KQ G (Rm 10 0 0) (fun w h' => w = some (.int (if x < 0 ∨ 120 < x then -2 else nrM N x np)) ∧ h' = (mH G h (eMd G sv rem typ err lin why wha beh its siz att wro tol) N))) 0 0 18 [(3, .int (nI i)), (2, .int (nrM N x i)), (0, .ref (Ad G 20)), (1, .int x)] [] (mH G h (eMd G sv rem typ err lin why wha beh its siz att wro tol) N)) (n := np) ?_ (fun i hi ihi => ?_)
    · refine x_iload_n 0 dX12_nearest_18 rfl rfl ?_
      first | refine x_aload_n 2 dX12_nearest_19 rfl rfl ?_ | refine x_aload_nN 2 dX12_nearest_19 rfl rfl ?_
      refine x_get fX12_9 rfl dX12_nearest_20 (by with_reducible repeat first | assumption | exact mH_0 ok | exact mH_1 | exact hset_s | refine mH_o (by first | assumption | exact nA ok (by omega) (by omega) (by omega)) (by first | assumption | exact nA ok (by omega) (by omega) (by omega)) ?_ | refine hget_n (by first | assumption | exact Ne.symm (by assumption) | exact nA ok (by omega) (by omega) (by omega)) ?_) (by rfl) ?_
      refine x_iconst (v := 3) dX12_nearest_23 rfl ?_
      refine x_mald (i := 3) (by first | exact Eq.refl (nI _) | exact ix_p _ _ | exact ix_o _ _ | exact ix_s _ | exact ix_s1 _ _ | (rw [ix_s]; exact nI_add _ _) | exact nI_add _ 1 | exact nI_add _ 2 | exact nI_add _ 3 | exact nI_add _ 4 | (rw [ix_o0]; exact nI_add _ 3) | (rw [ix_o0]; exact nI_add _ 4) | (rw [ix_o0]; exact nI_add _ _) | (rw [ix_o0]; exact (nI_add _ 3).trans (congrArg nI (by omega))) | (rw [ix_o0]; exact (nI_add _ 4).trans (congrArg nI (by omega))) | exact (nI_add _ 1).trans (congrArg nI (by omega)) | exact (nI_add _ 2).trans (congrArg nI (by omega)) | exact (nI_add _ 3).trans (congrArg nI (by omega)) | exact (nI_add _ 4).trans (congrArg nI (by omega))) dX12_nearest_24 (by omega) rfl ?_
      refine x_icmp_ge 89 dX12_nearest_25 (by decide) (fun _ => ?_) (fun z => by first | exact absurd (by rw [a3]; exact Int32.le_refl _) z | exact absurd z (by rw [a3]; exact Int32.le_refl _))
      refine x_iload_n 1 dX12_nearest_89 rfl rfl ?_
      refine x_iret rfl dX12_nearest_90 ?_
      refine ⟨congrArg (fun z => some (Value.int z)) ?_, rfl⟩
      rw [if_neg (fun z => c7 (inI_0.mpr z))]
    · refine x_iload_n 0 dX12_nearest_18 rfl rfl ?_
      first | refine x_aload_n 2 dX12_nearest_19 rfl rfl ?_ | refine x_aload_nN 2 dX12_nearest_19 rfl rfl ?_
      refine x_get fX12_9 rfl dX12_nearest_20 (by with_reducible repeat first | assumption | exact mH_0 ok | exact mH_1 | exact hset_s | refine mH_o (by first | assumption | exact nA ok (by omega) (by omega) (by omega)) (by first | assumption | exact nA ok (by omega) (by omega) (by omega)) ?_ | refine hget_n (by first | assumption | exact Ne.symm (by assumption) | exact nA ok (by omega) (by omega) (by omega)) ?_) (by rfl) ?_
      refine x_iconst (v := 3) dX12_nearest_23 rfl ?_
      refine x_mald (i := 3) (by first | exact Eq.refl (nI _) | exact ix_p _ _ | exact ix_o _ _ | exact ix_s _ | exact ix_s1 _ _ | (rw [ix_s]; exact nI_add _ _) | exact nI_add _ 1 | exact nI_add _ 2 | exact nI_add _ 3 | exact nI_add _ 4 | (rw [ix_o0]; exact nI_add _ 3) | (rw [ix_o0]; exact nI_add _ 4) | (rw [ix_o0]; exact nI_add _ _) | (rw [ix_o0]; exact (nI_add _ 3).trans (congrArg nI (by omega))) | (rw [ix_o0]; exact (nI_add _ 4).trans (congrArg nI (by omega))) | exact (nI_add _ 1).trans (congrArg nI (by omega)) | exact (nI_add _ 2).trans (congrArg nI (by omega)) | exact (nI_add _ 3).trans (congrArg nI (by omega)) | exact (nI_add _ 4).trans (congrArg nI (by omega))) dX12_nearest_24 (by omega) rfl ?_
      refine x_icmp_ge 89 dX12_nearest_25 (by decide) (fun z => by first | exact absurd z (by rw [a3]; exact nI_ge hi (by omega)) | exact absurd (by rw [a3]; exact nI_ge hi (by omega)) z) (fun _ => ?_)
      first | refine x_aload_n 2 dX12_nearest_28 rfl rfl ?_ | refine x_aload_nN 2 dX12_nearest_28 rfl rfl ?_
      refine x_iload_n 0 dX12_nearest_29 rfl rfl ?_
      refine x_cV1 (As := [.int _]) (ct_X12_isSold ok (i := i) (by omega)) vX12_132 rfl (x_recv (by with_reducible repeat first | assumption | exact mH_0 ok | exact mH_1 | exact hset_s | refine mH_o (by first | assumption | exact nA ok (by omega) (by omega) (by omega)) (by first | assumption | exact nA ok (by omega) (by omega) (by omega)) ?_ | refine hget_n (by first | assumption | exact Ne.symm (by assumption) | exact nA ok (by omega) (by omega) (by omega)) ?_) rfl) rfl ⟨ble rfl, ble rfl⟩ (ble rfl) dX12_nearest_30 rfl ?_
      refine x_if_ne 69 dX12_nearest_33 (by decide) (fun c33 => ?_) (fun c33 => ?_)
      · refine x_iconst (v := 0) dX12_nearest_69 rfl ?_
        refine x_istore (L' := [(4, _), (3, _), (2, _), (0, _), (1, _)]) dX12_nearest_70 (ble rfl) rfl ?_
        refine x_iload 0 dX12_nearest_72 rfl ?_
        refine x_if_eq 81 dX12_nearest_74 (by decide) (fun c74 => ?_) (fun c74 => ?_)
        · refine x_iload_n 2 dX12_nearest_81 rfl rfl ?_
          refine x_istore_n (L' := [(2, _), (4, _), (3, _), (0, _), (1, _)]) dX12_nearest_82 rfl (ble rfl) rfl ?_
          refine x_iinc (L' := [(3, _), (2, _), (4, _), (0, _), (1, _)]) (j := 2) (nI (_ + 1)) dX12_nearest_83 rfl (nI_1 _) (ble rfl) rfl ?_
          refine x_goto 18 dX12_nearest_86 (by decide) ?_
          refine x_locs (L' := [(3, _), (2, _), (0, _), (1, _)]) [0, 1, 3, 4] rfl ?_
          refine x_eqL ?_ ihi
          rw [nrM_s]
          first | exact absurd rfl c74 | exact absurd c74 (by decide) | (rw [if_neg (fun z => c33 z.1)]; done) | (rw [if_pos ⟨c33, Or.inl c39⟩]; done) | (rw [if_pos ⟨c33, Or.inr (by rw [hkb]; exact Int32.not_le.mp c62)⟩]; done) | (rw [if_neg (fun z => z.2.elim c39 (fun y => absurd y (by rw [hkb]; exact Int32.not_lt.mpr c62)))]; done)
        · refine x_iload_n 1 dX12_nearest_77 rfl rfl ?_
          refine x_goto 82 dX12_nearest_78 (by decide) ?_
          refine x_istore_n (L' := [(2, _), (4, _), (3, _), (0, _), (1, _)]) dX12_nearest_82 rfl (ble rfl) rfl ?_
          refine x_iinc (L' := [(3, _), (2, _), (4, _), (0, _), (1, _)]) (j := 2) (nI (_ + 1)) dX12_nearest_83 rfl (nI_1 _) (ble rfl) rfl ?_
          refine x_goto 18 dX12_nearest_86 (by decide) ?_
          refine x_locs (L' := [(3, _), (2, _), (0, _), (1, _)]) [0, 1, 3, 4] rfl ?_
          refine x_eqL ?_ ihi
          rw [nrM_s]
          first | exact absurd rfl c74 | exact absurd c74 (by decide) | (rw [if_neg (fun z => c33 z.1)]; done) | (rw [if_pos ⟨c33, Or.inl c39⟩]; done) | (rw [if_pos ⟨c33, Or.inr (by rw [hkb]; exact Int32.not_le.mp c62)⟩]; done) | (rw [if_neg (fun z => z.2.elim c39 (fun y => absurd y (by rw [hkb]; exact Int32.not_lt.mpr c62)))]; done)
      · refine x_iload_n 1 dX12_nearest_36 rfl rfl ?_
        refine x_bipush (v := -4) dX12_nearest_37 rfl ?_
        refine x_icmp_eq 65 dX12_nearest_39 (by decide) (fun c39 => ?_) (fun c39 => ?_)
        · refine x_iconst (v := 1) dX12_nearest_65 rfl ?_
          refine x_goto 70 dX12_nearest_66 (by decide) ?_
          refine x_istore (L' := [(4, _), (3, _), (2, _), (0, _), (1, _)]) dX12_nearest_70 (ble rfl) rfl ?_
          refine x_iload 0 dX12_nearest_72 rfl ?_
          refine x_if_eq 81 dX12_nearest_74 (by decide) (fun c74 => ?_) (fun c74 => ?_)
          · refine x_iload_n 2 dX12_nearest_81 rfl rfl ?_
            refine x_istore_n (L' := [(2, _), (4, _), (3, _), (0, _), (1, _)]) dX12_nearest_82 rfl (ble rfl) rfl ?_
            refine x_iinc (L' := [(3, _), (2, _), (4, _), (0, _), (1, _)]) (j := 2) (nI (_ + 1)) dX12_nearest_83 rfl (nI_1 _) (ble rfl) rfl ?_
            refine x_goto 18 dX12_nearest_86 (by decide) ?_
            refine x_locs (L' := [(3, _), (2, _), (0, _), (1, _)]) [0, 1, 3, 4] rfl ?_
            refine x_eqL ?_ ihi
            rw [nrM_s]
            first | exact absurd rfl c74 | exact absurd c74 (by decide) | (rw [if_neg (fun z => c33 z.1)]; done) | (rw [if_pos ⟨c33, Or.inl c39⟩]; done) | (rw [if_pos ⟨c33, Or.inr (by rw [hkb]; exact Int32.not_le.mp c62)⟩]; done) | (rw [if_neg (fun z => z.2.elim c39 (fun y => absurd y (by rw [hkb]; exact Int32.not_lt.mpr c62)))]; done)
          · refine x_iload_n 1 dX12_nearest_77 rfl rfl ?_
            refine x_goto 82 dX12_nearest_78 (by decide) ?_
            refine x_istore_n (L' := [(2, _), (4, _), (3, _), (0, _), (1, _)]) dX12_nearest_82 rfl (ble rfl) rfl ?_
            refine x_iinc (L' := [(3, _), (2, _), (4, _), (0, _), (1, _)]) (j := 2) (nI (_ + 1)) dX12_nearest_83 rfl (nI_1 _) (ble rfl) rfl ?_
            refine x_goto 18 dX12_nearest_86 (by decide) ?_
            refine x_locs (L' := [(3, _), (2, _), (0, _), (1, _)]) [0, 1, 3, 4] rfl ?_
            refine x_eqL ?_ ihi
            rw [nrM_s]
            first | exact absurd rfl c74 | exact absurd c74 (by decide) | (rw [if_neg (fun z => c33 z.1)]; done) | (rw [if_pos ⟨c33, Or.inl c39⟩]; done) | (rw [if_pos ⟨c33, Or.inr (by rw [hkb]; exact Int32.not_le.mp c62)⟩]; done) | (rw [if_neg (fun z => z.2.elim c39 (fun y => absurd y (by rw [hkb]; exact Int32.not_lt.mpr c62)))]; done)
        · obtain ⟨bb, hbb, ebb⟩ := (nrM_c N x i).resolve_left c39
          have hkb : kOf (nrM N x i) = bb := by rw [ebb]; exact kOf_nI (by omega)
          first | refine x_aload_n 2 dX12_nearest_42 rfl rfl ?_ | refine x_aload_nN 2 dX12_nearest_42 rfl rfl ?_
          refine x_iload_n 0 dX12_nearest_43 rfl rfl ?_
          refine x_cV1 (As := [.int _]) (ct_X12_soundOf ok (i := i) (by omega) (AP i (by omega))) vX12_194 rfl (x_recv (by with_reducible repeat first | assumption | exact mH_0 ok | exact mH_1 | exact hset_s | refine mH_o (by first | assumption | exact nA ok (by omega) (by omega) (by omega)) (by first | assumption | exact nA ok (by omega) (by omega) (by omega)) ?_ | refine hget_n (by first | assumption | exact Ne.symm (by assumption) | exact nA ok (by omega) (by omega) (by omega)) ?_) rfl) rfl ⟨ble rfl, ble rfl⟩ (ble rfl) dX12_nearest_44 rfl ?_
          refine x_iload_n 3 dX12_nearest_47 rfl rfl ?_
          refine x_isub dX12_nearest_48 ?_
          refine x_mabs rfl wX12_200 wMabs2 wMath3 wMabs4 (ble rfl) (ble rfl) dX12_nearest_49 ?_
          first | refine x_aload_n 2 dX12_nearest_52 rfl rfl ?_ | refine x_aload_nN 2 dX12_nearest_52 rfl rfl ?_
          refine x_iload_n 1 dX12_nearest_53 rfl rfl ?_
          refine x_eqS (st' := [.int (nI bb), .ref (Ad G 20), .int _]) (by rw [ebb]) ?_
          refine x_cV1 (As := [.int _]) (ct_X12_soundOf ok (i := bb) (by omega) (AP bb (by omega))) vX12_194 rfl (x_recv (by with_reducible repeat first | assumption | exact mH_0 ok | exact mH_1 | exact hset_s | refine mH_o (by first | assumption | exact nA ok (by omega) (by omega) (by omega)) (by first | assumption | exact nA ok (by omega) (by omega) (by omega)) ?_ | refine hget_n (by first | assumption | exact Ne.symm (by assumption) | exact nA ok (by omega) (by omega) (by omega)) ?_) rfl) rfl ⟨ble rfl, ble rfl⟩ (ble rfl) dX12_nearest_54 rfl ?_
          refine x_iload_n 3 dX12_nearest_57 rfl rfl ?_
          refine x_isub dX12_nearest_58 ?_
          refine x_mabs rfl wX12_200 wMabs2 wMath3 wMabs4 (ble rfl) (ble rfl) dX12_nearest_59 ?_
          refine x_icmp_ge 69 dX12_nearest_62 (by decide) (fun c62 => ?_) (fun c62 => ?_)
          · refine x_iconst (v := 0) dX12_nearest_69 rfl ?_
            refine x_istore (L' := [(4, _), (3, _), (2, _), (0, _), (1, _)]) dX12_nearest_70 (ble rfl) rfl ?_
            refine x_iload 0 dX12_nearest_72 rfl ?_
            refine x_if_eq 81 dX12_nearest_74 (by decide) (fun c74 => ?_) (fun c74 => ?_)
            · refine x_iload_n 2 dX12_nearest_81 rfl rfl ?_
              refine x_istore_n (L' := [(2, _), (4, _), (3, _), (0, _), (1, _)]) dX12_nearest_82 rfl (ble rfl) rfl ?_
              refine x_iinc (L' := [(3, _), (2, _), (4, _), (0, _), (1, _)]) (j := 2) (nI (_ + 1)) dX12_nearest_83 rfl (nI_1 _) (ble rfl) rfl ?_
              refine x_goto 18 dX12_nearest_86 (by decide) ?_
              refine x_locs (L' := [(3, _), (2, _), (0, _), (1, _)]) [0, 1, 3, 4] rfl ?_
              refine x_eqL ?_ ihi
              rw [nrM_s]
              first | exact absurd rfl c74 | exact absurd c74 (by decide) | (rw [if_neg (fun z => c33 z.1)]; done) | (rw [if_pos ⟨c33, Or.inl c39⟩]; done) | (rw [if_pos ⟨c33, Or.inr (by rw [hkb]; exact Int32.not_le.mp c62)⟩]; done) | (rw [if_neg (fun z => z.2.elim c39 (fun y => absurd y (by rw [hkb]; exact Int32.not_lt.mpr c62)))]; done)
            · refine x_iload_n 1 dX12_nearest_77 rfl rfl ?_
              refine x_goto 82 dX12_nearest_78 (by decide) ?_
              refine x_istore_n (L' := [(2, _), (4, _), (3, _), (0, _), (1, _)]) dX12_nearest_82 rfl (ble rfl) rfl ?_
              refine x_iinc (L' := [(3, _), (2, _), (4, _), (0, _), (1, _)]) (j := 2) (nI (_ + 1)) dX12_nearest_83 rfl (nI_1 _) (ble rfl) rfl ?_
              refine x_goto 18 dX12_nearest_86 (by decide) ?_
              refine x_locs (L' := [(3, _), (2, _), (0, _), (1, _)]) [0, 1, 3, 4] rfl ?_
              refine x_eqL ?_ ihi
              rw [nrM_s]
              first | exact absurd rfl c74 | exact absurd c74 (by decide) | (rw [if_neg (fun z => c33 z.1)]; done) | (rw [if_pos ⟨c33, Or.inl c39⟩]; done) | (rw [if_pos ⟨c33, Or.inr (by rw [hkb]; exact Int32.not_le.mp c62)⟩]; done) | (rw [if_neg (fun z => z.2.elim c39 (fun y => absurd y (by rw [hkb]; exact Int32.not_lt.mpr c62)))]; done)
          · refine x_iconst (v := 1) dX12_nearest_65 rfl ?_
            refine x_goto 70 dX12_nearest_66 (by decide) ?_
            refine x_istore (L' := [(4, _), (3, _), (2, _), (0, _), (1, _)]) dX12_nearest_70 (ble rfl) rfl ?_
            refine x_iload 0 dX12_nearest_72 rfl ?_
            refine x_if_eq 81 dX12_nearest_74 (by decide) (fun c74 => ?_) (fun c74 => ?_)
            · refine x_iload_n 2 dX12_nearest_81 rfl rfl ?_
              refine x_istore_n (L' := [(2, _), (4, _), (3, _), (0, _), (1, _)]) dX12_nearest_82 rfl (ble rfl) rfl ?_
              refine x_iinc (L' := [(3, _), (2, _), (4, _), (0, _), (1, _)]) (j := 2) (nI (_ + 1)) dX12_nearest_83 rfl (nI_1 _) (ble rfl) rfl ?_
              refine x_goto 18 dX12_nearest_86 (by decide) ?_
              refine x_locs (L' := [(3, _), (2, _), (0, _), (1, _)]) [0, 1, 3, 4] rfl ?_
              refine x_eqL ?_ ihi
              rw [nrM_s]
              first | exact absurd rfl c74 | exact absurd c74 (by decide) | (rw [if_neg (fun z => c33 z.1)]; done) | (rw [if_pos ⟨c33, Or.inl c39⟩]; done) | (rw [if_pos ⟨c33, Or.inr (by rw [hkb]; exact Int32.not_le.mp c62)⟩]; done) | (rw [if_neg (fun z => z.2.elim c39 (fun y => absurd y (by rw [hkb]; exact Int32.not_lt.mpr c62)))]; done)
            · refine x_iload_n 1 dX12_nearest_77 rfl rfl ?_
              refine x_goto 82 dX12_nearest_78 (by decide) ?_
              refine x_istore_n (L' := [(2, _), (4, _), (3, _), (0, _), (1, _)]) dX12_nearest_82 rfl (ble rfl) rfl ?_
              refine x_iinc (L' := [(3, _), (2, _), (4, _), (0, _), (1, _)]) (j := 2) (nI (_ + 1)) dX12_nearest_83 rfl (nI_1 _) (ble rfl) rfl ?_
              refine x_goto 18 dX12_nearest_86 (by decide) ?_
              refine x_locs (L' := [(3, _), (2, _), (0, _), (1, _)]) [0, 1, 3, 4] rfl ?_
              refine x_eqL ?_ ihi
              rw [nrM_s]
              first | exact absurd rfl c74 | exact absurd c74 (by decide) | (rw [if_neg (fun z => c33 z.1)]; done) | (rw [if_pos ⟨c33, Or.inl c39⟩]; done) | (rw [if_pos ⟨c33, Or.inr (by rw [hkb]; exact Int32.not_le.mp c62)⟩]; done) | (rw [if_neg (fun z => z.2.elim c39 (fun y => absurd y (by rw [hkb]; exact Int32.not_lt.mpr c62)))]; done)
  · refine x_bipush (v := -2) dX12_nearest_10 rfl ?_
    refine x_iret rfl dX12_nearest_12 ?_
    refine ⟨congrArg (fun z => some (Value.int z)) ?_, rfl⟩
    rw [if_pos (inI_0.mp c7)]
