theorem lowF_c (p : Nat → Bool) (n : Nat) : ∀ k, k ≤ n → lowF p n k = -4 ∨ ∃ i, i < n ∧ lowF p n k = nI i ∧ p i = true
  | 0, _ => Or.inl rfl
  | k + 1, hk => by
    by_cases hp : p (n - (k + 1)) = true
    · exact Or.inr ⟨n - (k + 1), by omega, by show (if _ then _ else _) = _; rw [if_pos hp], hp⟩
    · have h1 : lowF p n (k + 1) = lowF p n k := by show (if _ then _ else _) = _; rw [if_neg hp]
      rw [h1]
      exact lowF_c p n k (by omega)
theorem lowN_c (N : Nat → Int32) (giv : Int32) (j np : Nat) : lowN N giv j np = -4 ∨ ∃ i, i < np ∧ lowN N giv j np = nI i ∧ lwB N giv j i = true := lowF_c _ np np (Nat.le_refl np)
def potF (N : Nat → Int32) (np i : Nat) (giv : Int32) : Int32 := if ¬ soldK (N (191 + 5 * i)) = 0 then -4 else lowN N giv i np
/-- what the orders are paid in turn, and the pots that are given away -/
def wF (N : Nat → Int32) (np : Nat) : Nat → Int32 × Int32
  | 0 => (0, 0)
  | i + 1 => if potF N np i (wF N np i).2 < 0 then wF N np i else ((wF N np i).1 + payK (N (64 + 8 * kOf (potF N np i (wF N np i).2))) (N (190 + 5 * i)), (wF N np i).2 ||| (1 : Int32) <<< (potF N np i (wF N np i).2 &&& 31))
theorem wF_s (N : Nat → Int32) (np i : Nat) : wF N np (i + 1) = if potF N np i (wF N np i).2 < 0 then wF N np i else ((wF N np i).1 + payK (N (64 + 8 * kOf (potF N np i (wF N np i).2))) (N (190 + 5 * i)), (wF N np i).2 ||| (1 : Int32) <<< (potF N np i (wF N np i).2 &&& 31)) := rfl
theorem potF_c {N : Nat → Int32} {np i : Nat} {giv : Int32} (hnp : np ≤ 16) (h : ¬ potF N np i giv < 0) : ∃ j, j < np ∧ potF N np i giv = nI j := by
  unfold potF at h ⊢
  split at h
  · exact absurd (by decide) h
  · rename_i hs
    rw [if_neg hs]
    rcases lowN_c N giv i np with e | ⟨j, hj, e, -⟩
    · rw [e] at h; exact absurd (by decide) h
    · exact ⟨j, hj, e⟩
theorem kOf_nI {j : Nat} (h : j < 2 ^ 31) : kOf (nI j) = j := nI_clamp h
set_option maxRecDepth 100000 in
set_option maxHeartbeats 4000000 in
theorem ct_X8_payInTurn {l : Launch} {G : Gl} {h : Hp} {N : Nat → Int32} {B ns np no : Nat} (ok : Ok G) (hB : B + 60 < 3000) (H : ShW G h B N ns np no) : CtR l G mX8_payInTurn 6 [.ref (Ad G B)] h (some (.int (wF N np no).1)) (h) := by
  have H0 := H
  obtain ⟨hsh, has, hap, hao, ⟨gp, hag⟩, hns, hnp, hno, bs, bp, bo, hS, hP, hO, hS2, hP2, hO2⟩ := H
  refine Ct.of (L := [(0, _)]) (by decide) (ble rfl) rfl ?_
  refine x_iconst (v := 0) dX8_payInTurn_0 rfl ?_
  refine x_istore_n (L' := [(1, _), (0, _)]) dX8_payInTurn_1 rfl (ble rfl) rfl ?_
  refine x_iconst (v := 0) dX8_payInTurn_2 rfl ?_
  refine x_istore_n (L' := [(2, _), (1, _), (0, _)]) dX8_payInTurn_3 rfl (ble rfl) rfl ?_
  refine x_iconst (v := 0) dX8_payInTurn_4 rfl ?_
  refine x_istore_n (L' := [(3, _), (2, _), (1, _), (0, _)]) dX8_payInTurn_5 rfl (ble rfl) rfl ?_
  refine x_locs (L' := [(3, _), (2, _), (1, _), (0, _)]) [0, 1, 2, 3] rfl ?_
  refine dn (P := fun i => XX l G mX8_payInTurn (Rm 6 0 0) (KQ G (Rm 6 0 0) (fun w h' => w = some (.int (wF N np no).1) ∧ h' = h)) 0 0 6 [(3, .int (nI i)), (2, .int (wF N np i).2), (1, .int (wF N np i).1), (0, .ref (Ad G B))] [] h) (n := no) ?_ (fun i hi ihi => ?_)
  · refine x_iload_n 0 dX8_payInTurn_6 rfl rfl ?_
    first | refine x_aload_n 3 dX8_payInTurn_7 rfl rfl ?_ | refine x_aload_nN 3 dX8_payInTurn_7 rfl rfl ?_
    refine x_get fX8_40 rfl dX8_payInTurn_8 (by with_reducible repeat first | assumption | exact hset_s | refine hget_n (by first | assumption | exact Ne.symm (by assumption) | exact nA (by assumption) (by omega) (by omega) (by omega)) ?_) (by rfl) ?_
    refine x_icmp_ge 81 dX8_payInTurn_11 (by decide) (fun _ => ?_) (fun z => by first | exact absurd (by rw [hno]; exact Int32.le_refl _) z | exact absurd z (by rw [hno]; exact Int32.le_refl _))
    refine x_iload_n 2 dX8_payInTurn_81 rfl rfl ?_
    refine x_iret rfl dX8_payInTurn_82 ?_
    exact ⟨rfl, rfl⟩
  · obtain ⟨hk2, hq⟩ := hO i hi
    refine x_iload_n 0 dX8_payInTurn_6 rfl rfl ?_
    first | refine x_aload_n 3 dX8_payInTurn_7 rfl rfl ?_ | refine x_aload_nN 3 dX8_payInTurn_7 rfl rfl ?_
    refine x_get fX8_40 rfl dX8_payInTurn_8 (by with_reducible repeat first | assumption | exact hset_s | refine hget_n (by first | assumption | exact Ne.symm (by assumption) | exact nA (by assumption) (by omega) (by omega) (by omega)) ?_) (by rfl) ?_
    refine x_icmp_ge 81 dX8_payInTurn_11 (by decide) (fun z => by first | exact absurd z (by rw [hno]; exact nI_ge hi (by omega)) | exact absurd (by rw [hno]; exact nI_ge hi (by omega)) z) (fun _ => ?_)
    first | refine x_aload_n 3 dX8_payInTurn_14 rfl rfl ?_ | refine x_aload_nN 3 dX8_payInTurn_14 rfl rfl ?_
    refine x_get fX8_25 rfl dX8_payInTurn_15 (by with_reducible repeat first | assumption | exact hset_s | refine hget_n (by first | assumption | exact Ne.symm (by assumption) | exact nA (by assumption) (by omega) (by omega) (by omega)) ?_) (by rfl) ?_
    refine x_iload_n 0 dX8_payInTurn_18 rfl rfl ?_
    refine x_aald 5 rfl dX8_payInTurn_19 (by with_reducible repeat first | assumption | exact hset_s | refine hget_n (by first | assumption | exact Ne.symm (by assumption) | exact nA (by assumption) (by omega) (by omega) (by omega)) ?_) (vp_in_nI (by omega) (by omega)) (v := .ref (Ad G (B + 50 + i))) (by rw [nI_clamp (by omega)]; rfl) ?_
    refine x_cV1 (As := []) (ct_X3_isFilled (by with_reducible repeat first | assumption | exact hset_s | refine hget_n (by first | assumption | exact Ne.symm (by assumption) | exact nA (by assumption) (by omega) (by omega) (by omega)) ?_)) vX8_73 rfl (x_recv (by with_reducible repeat first | assumption | exact hset_s | refine hget_n (by first | assumption | exact Ne.symm (by assumption) | exact nA (by assumption) (by omega) (by omega) (by omega)) ?_) rfl) rfl ⟨ble rfl, ble rfl⟩ (ble rfl) dX8_payInTurn_20 rfl ?_
    have J23 : ∀ v : Int32, v = potF N np i (wF N np i).2 → XX l G mX8_payInTurn (Rm 6 0 0) (KQ G (Rm 6 0 0) (fun w h' => w = some (.int (wF N np no).1) ∧ h' = h)) 0 0 42 [(0, .ref (Ad G B)), (3, .int (nI i)), (2, .int (wF N np i).2), (1, .int (wF N np i).1)] [.int v] h := by
      intro v hv
      refine x_istore (L' := [(4, _), (0, _), (3, _), (2, _), (1, _)]) dX8_payInTurn_42 (ble rfl) rfl ?_
      refine x_iload 0 dX8_payInTurn_44 rfl ?_
      refine x_if_lt 75 dX8_payInTurn_46 (by decide) (fun c46 => ?_) (fun c46 => ?_)
      · refine x_iinc (L' := [(3, _), (4, _), (0, _), (2, _), (1, _)]) (j := 2) (nI (_ + 1)) dX8_payInTurn_75 rfl (nI_1 _) (ble rfl) rfl ?_
        refine x_goto 6 dX8_payInTurn_78 (by decide) ?_
        refine x_locs (L' := [(3, _), (2, _), (1, _), (0, _)]) [0, 3, 4, 2] rfl ?_
        refine x_eqL ?_ ihi
        rw [wF_s, ← hv]
        first | (rw [if_pos c46]) | (have hvj2 : v = nI j := hv.trans hvj; rw [if_neg c46, hvj2, kOf_nI (by omega)])
      · obtain ⟨j, hj, hvj⟩ := potF_c bp (by rw [← hv]; exact c46)
        obtain ⟨hk, hp⟩ := hP j hj
        refine x_iload_n 3 dX8_payInTurn_49 rfl rfl ?_
        refine x_iconst (v := 1) dX8_payInTurn_50 rfl ?_
        refine x_iload 0 dX8_payInTurn_51 rfl ?_
        refine x_ishl dX8_payInTurn_53 ?_
        refine x_ior dX8_payInTurn_54 ?_
        refine x_istore_n (L' := [(2, _), (4, _), (0, _), (3, _), (1, _)]) dX8_payInTurn_55 rfl (ble rfl) rfl ?_
        refine x_iload_n 4 dX8_payInTurn_56 rfl rfl ?_
        first | refine x_aload_n 2 dX8_payInTurn_57 rfl rfl ?_ | refine x_aload_nN 2 dX8_payInTurn_57 rfl rfl ?_
        refine x_get fX8_25 rfl dX8_payInTurn_58 (by with_reducible repeat first | assumption | exact hset_s | refine hget_n (by first | assumption | exact Ne.symm (by assumption) | exact nA (by assumption) (by omega) (by omega) (by omega)) ?_) (by rfl) ?_
        refine x_iload_n 3 dX8_payInTurn_61 rfl rfl ?_
        refine x_aald 5 rfl dX8_payInTurn_62 (by with_reducible repeat first | assumption | exact hset_s | refine hget_n (by first | assumption | exact Ne.symm (by assumption) | exact nA (by assumption) (by omega) (by omega) (by omega)) ?_) (vp_in_nI (by omega) (by omega)) (v := .ref (Ad G (B + 50 + i))) (by rw [nI_clamp (by omega)]; rfl) ?_
        first | refine x_aload_n 2 dX8_payInTurn_63 rfl rfl ?_ | refine x_aload_nN 2 dX8_payInTurn_63 rfl rfl ?_
        refine x_get fX8_19 rfl dX8_payInTurn_64 (by with_reducible repeat first | assumption | exact hset_s | refine hget_n (by first | assumption | exact Ne.symm (by assumption) | exact nA (by assumption) (by omega) (by omega) (by omega)) ?_) (by rfl) ?_
        refine x_iload 1 dX8_payInTurn_67 rfl ?_
        refine x_aald 4 rfl dX8_payInTurn_69 (by with_reducible repeat first | assumption | exact hset_s | refine hget_n (by first | assumption | exact Ne.symm (by assumption) | exact nA (by assumption) (by omega) (by omega) (by omega)) ?_) (by rw [hv, hvj]; exact vp_in_nI (by omega) (by omega)) (v := .ref (Ad G (B + 30 + j))) (by rw [hv, hvj, nI_clamp (by omega)]; rfl) ?_
        refine x_cV1 (As := [.ref _]) (ct_X3_payFor (by with_reducible repeat first | assumption | exact hset_s | refine hget_n (by first | assumption | exact Ne.symm (by assumption) | exact nA (by assumption) (by omega) (by omega) (by omega)) ?_) (by with_reducible repeat first | assumption | exact hset_s | refine hget_n (by first | assumption | exact Ne.symm (by assumption) | exact nA (by assumption) (by omega) (by omega) (by omega)) ?_)) vX8_116 rfl (x_recv (by with_reducible repeat first | assumption | exact hset_s | refine hget_n (by first | assumption | exact Ne.symm (by assumption) | exact nA (by assumption) (by omega) (by omega) (by omega)) ?_) rfl) rfl ⟨ble rfl, ble rfl⟩ (ble rfl) dX8_payInTurn_70 rfl ?_
        refine x_iadd dX8_payInTurn_73 ?_
        refine x_istore_n (L' := [(1, _), (2, _), (4, _), (0, _), (3, _)]) dX8_payInTurn_74 rfl (ble rfl) rfl ?_
        refine x_iinc (L' := [(3, _), (1, _), (2, _), (4, _), (0, _)]) (j := 4) (nI (_ + 1)) dX8_payInTurn_75 rfl (nI_1 _) (ble rfl) rfl ?_
        refine x_goto 6 dX8_payInTurn_78 (by decide) ?_
        refine x_locs (L' := [(3, _), (2, _), (1, _), (0, _)]) [0, 2, 1, 4] rfl ?_
        refine x_eqL ?_ ihi
        rw [wF_s, ← hv]
        first | (rw [if_pos c46]) | (have hvj2 : v = nI j := hv.trans hvj; rw [if_neg c46, hvj2, kOf_nI (by omega)])
    refine x_if_eq 31 dX8_payInTurn_23 (by decide) (fun c23 => ?_) (fun c23 => ?_)
    · first | refine x_aload_n 3 dX8_payInTurn_31 rfl rfl ?_ | refine x_aload_nN 3 dX8_payInTurn_31 rfl rfl ?_
      first | refine x_aload_n 3 dX8_payInTurn_32 rfl rfl ?_ | refine x_aload_nN 3 dX8_payInTurn_32 rfl rfl ?_
      refine x_get fX8_25 rfl dX8_payInTurn_33 (by with_reducible repeat first | assumption | exact hset_s | refine hget_n (by first | assumption | exact Ne.symm (by assumption) | exact nA (by assumption) (by omega) (by omega) (by omega)) ?_) (by rfl) ?_
      refine x_iload_n 0 dX8_payInTurn_36 rfl rfl ?_
      refine x_aald 5 rfl dX8_payInTurn_37 (by with_reducible repeat first | assumption | exact hset_s | refine hget_n (by first | assumption | exact Ne.symm (by assumption) | exact nA (by assumption) (by omega) (by omega) (by omega)) ?_) (vp_in_nI (by omega) (by omega)) (v := .ref (Ad G (B + 50 + i))) (by rw [nI_clamp (by omega)]; rfl) ?_
      refine x_iload_n 1 dX8_payInTurn_38 rfl rfl ?_
      refine x_cV1 (As := [.ref _, .int _]) (ct_X8_lowestGood (by assumption) (by assumption) (by assumption) (by assumption) _) vX8_112 rfl (x_recv (by with_reducible repeat first | assumption | exact hset_s | refine hget_n (by first | assumption | exact Ne.symm (by assumption) | exact nA (by assumption) (by omega) (by omega) (by omega)) ?_) rfl) rfl ⟨ble rfl, ble rfl⟩ (ble rfl) dX8_payInTurn_39 rfl ?_
      refine x_locs (L' := [(0, _), (3, _), (2, _), (1, _)]) [3, 0, 1, 2] rfl ?_
      refine J23 _ ?_
      unfold potF; simp_all
    · refine x_bipush (v := -4) dX8_payInTurn_26 rfl ?_
      refine x_goto 42 dX8_payInTurn_28 (by decide) ?_
      refine x_locs (L' := [(0, _), (3, _), (2, _), (1, _)]) [3, 0, 1, 2] rfl ?_
      refine J23 _ ?_
      unfold potF; simp_all
