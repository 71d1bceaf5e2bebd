theorem k3_of {y : Int32} (h : ¬ inI y 0 2 = 0) : K3 y ∧ 0 ≤ y ∧ y < 3 := by
  have h1 : ¬ (y < 0 ∨ 2 < y) := fun z => h (inI_0.mpr z)
  have h0 : ¬ y < 0 := fun z => h1 (Or.inl z)
  obtain ⟨j, hj, rfl⟩ := nI_of h0
  have h2 : j < 3 := Nat.not_le.mp fun z => h1 (Or.inr (show nI 2 < nI j from nI_lt (by omega) hj))
  exact ⟨⟨by rw [kOf_nI hj], by rw [kOf_nI hj]; exact h2⟩, nI_pos' hj, show nI j < nI 3 from nI_lt h2 (by omega)⟩
theorem k3_no {y : Int32} (h : inI y 0 2 = 0) : ¬ (0 ≤ y ∧ y < 3) := by
  have t3 : Int32.toInt 3 = 3 := rfl
  have t2 : Int32.toInt 2 = 2 := rfl
  rcases inI_0.mp h with z | z <;> simp only [Int32.lt_iff_toInt_lt, Int32.le_iff_toInt_le, Int32.toInt_zero] at * <;> omega
def zrN (N : Nat → Int32) (p w : Nat) : Nat → Int32 := fun q => if 60 + 8 * p ≤ q ∧ q < 60 + 8 * p + w then 0 else N q
theorem zrN_0 (N : Nat → Int32) (p : Nat) : zrN N p 0 = N := by funext q; unfold zrN; rw [if_neg (by omega)]
theorem zrN_s (N : Nat → Int32) (p w : Nat) : upd (zrN N p w) (60 + 8 * p + w) 0 = zrN N p (w + 1) := by
  funext q
  unfold upd zrN
  by_cases h : q = 60 + 8 * p + w
  · subst h; rw [if_pos rfl, if_pos (by omega)]
  · rw [if_neg h]
    by_cases h2 : 60 + 8 * p ≤ q ∧ q < 60 + 8 * p + w
    · rw [if_pos h2, if_pos (by omega)]
    · rw [if_neg h2, if_neg (by omega)]
theorem zrN_in {N : Nat → Int32} {p w q : Nat} (h1 : 60 + 8 * p ≤ q) (h2 : q < 60 + 8 * p + w) : zrN N p w q = 0 := if_pos ⟨h1, h2⟩
theorem zrN_out {N : Nat → Int32} {p w q : Nat} (h1 : q < 60 + 8 * p ∨ 60 + 8 * p + w ≤ q) : zrN N p w q = N q := if_neg (by omega)
set_option maxRecDepth 100000 in
set_option maxHeartbeats 4000000 in
theorem ct_rais_o {l : Launch} {G : Gl} {h : Hp} {sv rem typ err lin wha its siz att wro tol : Int32} {N : Nat → Int32} (ok : Ok G) {ns : Nat} (hns12 : ns ≤ 16) (hns : N 2 = nI ns) (x y : Int32) (hx : ¬ (0 ≤ x ∧ x < N 2)) : Ct l G mX12_raises 6 (0) (0) [.ref (Ad G 20), .int x, .int y] (mH G h (eMd G sv rem typ err lin 0 wha 0 its siz att wro tol) N) (fun w h' => ∃ r why' wha' beh' its' N', w = some (.int r) ∧ h' = mH G h (eMd G sv rem typ err lin why' wha' beh' its' siz att wro tol) N' ∧ DeedR (pRaise N x y) r why' wha' beh' its' N') := by
  refine Ct.of (L := [(0, _), (1, _), (2, _)]) (by decide) (ble rfl) rfl ?_
  first | refine x_aload_n 0 dX12_raises_0 rfl rfl ?_ | refine x_aload_nN 0 dX12_raises_0 rfl rfl ?_
  refine x_iload_n 1 dX12_raises_1 rfl rfl ?_
  refine x_cV1 (As := [.int _]) (ct_isSheet_out ok hns hns12 hx) vX12_97 rfl (x_recv (by with_reducible repeat first | assumption | exact mH_0 ok | exact mH_1 | exact hset_s | refine mH_o (by first | assumption | exact nA ok (by omega) (by omega) (by omega)) (by first | assumption | exact nA ok (by omega) (by omega) (by omega)) ?_ | refine hget_n (by first | assumption | exact Ne.symm (by assumption) | exact nA ok (by omega) (by omega) (by omega)) ?_) rfl) rfl ⟨ble rfl, ble rfl⟩ (ble rfl) dX12_raises_2 rfl ?_
  refine x_if_ne 10 dX12_raises_5 (by decide) (fun z => by first | exact absurd z (fun z => z rfl) | exact absurd (fun z => z rfl) z) (fun _ => ?_)
  refine x_iconst (v := -1) dX12_raises_8 rfl ?_
  refine x_iret rfl dX12_raises_9 ?_
  refine ⟨_, _, _, _, _, _, rfl, rfl, ?_⟩
  unfold pRaise
  rw [if_pos hx]
  exact ⟨rfl, rfl, rfl⟩
theorem ra_row {N : Nat → Int32} {i np : Nat} {y g : Int32} (hi : i < 12) (hp : np < 16) (hnp : N 3 = nI np) : upd (upd (upd (upd (upd (zrN (upd (upd N (12 + 4 * i + 1) (N (13 + 4 * i) - kArea (kOf y))) (12 + 4 * i + 2) (N (14 + 4 * i) + 1)) np 8) (60 + 8 * np) y) (61 + 8 * np) g) (66 + 8 * np) (-4)) (67 + 8 * np) (nI i)) 3 (nI np + 1) = upd (upd (upd (upd (upd (upd (upd (upd (upd (upd (upd N (13 + 4 * i) (N (13 + 4 * i) - kArea (kOf y))) (14 + 4 * i) (N (14 + 4 * i) + 1)) (60 + 8 * np) y) (61 + 8 * np) g) (62 + 8 * np) 0) (63 + 8 * np) 0) (64 + 8 * np) 0) (65 + 8 * np) 0) (66 + 8 * np) (-4)) (67 + 8 * np) (nI i)) 3 (nI np + 1) := by
  funext q
  by_cases q3 : q = 3
  · subst q3; simp (disch := omega) only [upd_ne, upd_eq, zrN_in, zrN_out]
  by_cases q13 : q = 13 + 4 * i
  · subst q13; simp (disch := omega) only [upd_ne, upd_eq, zrN_in, zrN_out]
  by_cases q14 : q = 14 + 4 * i
  · subst q14; simp (disch := omega) only [upd_ne, upd_eq, zrN_in, zrN_out]
  by_cases q60 : q = 60 + 8 * np
  · subst q60; simp (disch := omega) only [upd_ne, upd_eq, zrN_in, zrN_out]
  by_cases q61 : q = 61 + 8 * np
  · subst q61; simp (disch := omega) only [upd_ne, upd_eq, zrN_in, zrN_out]
  by_cases q66 : q = 66 + 8 * np
  · subst q66; simp (disch := omega) only [upd_ne, upd_eq, zrN_in, zrN_out]
  by_cases q67 : q = 67 + 8 * np
  · subst q67; simp (disch := omega) only [upd_ne, upd_eq, zrN_in, zrN_out]
  by_cases qz : 60 + 8 * np ≤ q ∧ q < 68 + 8 * np
  · rcases (show q = 62 + 8 * np ∨ q = 63 + 8 * np ∨ q = 64 + 8 * np ∨ q = 65 + 8 * np by omega) with rfl | rfl | rfl | rfl <;> simp (disch := omega) only [upd_ne, upd_eq, zrN_in, zrN_out]
  · simp (disch := omega) only [upd_ne, upd_eq, zrN_in, zrN_out]
set_option maxRecDepth 100000 in
set_option maxHeartbeats 4000000 in
theorem ct_rais_i {l : Launch} {G : Gl} {h : Hp} {sv rem typ err lin wha its siz att wro tol : Int32} {N : Nat → Int32} (ok : Ok G) {i ns np : Nat} (hi : i < ns) (hns : N 2 = nI ns) (hns12 : ns ≤ 12) (hnp : N 3 = nI np) (hn16 : np ≤ 16) (y : Int32) : Ct l G mX12_raises 6 (0) (0) [.ref (Ad G 20), .int (nI i), .int y] (mH G h (eMd G sv rem typ err lin 0 wha 0 its siz att wro tol) N) (fun w h' => ∃ r why' wha' beh' its' N', w = some (.int r) ∧ h' = mH G h (eMd G sv rem typ err lin why' wha' beh' its' siz att wro tol) N' ∧ DeedR (pRaise N (nI i) y) r why' wha' beh' its' N') := by
  have hcl := kOf_nI (j := i) (by omega)
  have hcn : kOf (nI np) = np := kOf_nI (by omega)
  have hsin : 0 ≤ nI i ∧ nI i < N 2 := ⟨nI_pos' (by omega), by rw [hns]; exact nI_lt hi (by omega)⟩
  refine Ct.of (L := [(0, _), (1, _), (2, _)]) (by decide) (ble rfl) rfl ?_
  first | refine x_aload_n 0 dX12_raises_0 rfl rfl ?_ | refine x_aload_nN 0 dX12_raises_0 rfl rfl ?_
  refine x_iload_n 1 dX12_raises_1 rfl rfl ?_
  refine x_cV1 (As := [.int _]) (ct_isSheet_in ok hns (by omega) hi) vX12_97 rfl (x_recv (by with_reducible repeat first | assumption | exact mH_0 ok | exact mH_1 | exact hset_s | refine mH_o (by first | assumption | exact nA ok (by omega) (by omega) (by omega)) (by first | assumption | exact nA ok (by omega) (by omega) (by omega)) ?_ | refine hget_n (by first | assumption | exact Ne.symm (by assumption) | exact nA ok (by omega) (by omega) (by omega)) ?_) rfl) rfl ⟨ble rfl, ble rfl⟩ (ble rfl) dX12_raises_2 rfl ?_
  refine x_if_ne 10 dX12_raises_5 (by decide) (fun _ => ?_) (fun z => by first | exact absurd (show ¬ (1 : Int32) = 0 by decide) z | exact absurd z (show ¬ (1 : Int32) = 0 by decide))
  refine x_iload_n 2 dX12_raises_10 rfl rfl ?_
  refine x_cS1 (As := [.int _]) (ct_X12_isKind _) vX12_120 rfl rfl ⟨ble rfl, ble rfl⟩ (ble rfl) dX12_raises_11 rfl ?_
  refine x_if_ne 20 dX12_raises_14 (by decide) (fun c14 => ?_) (fun c14 => ?_)
  · obtain ⟨hk, hk3⟩ := k3_of c14
    first | refine x_aload_n 0 dX12_raises_20 rfl rfl ?_ | refine x_aload_nN 0 dX12_raises_20 rfl rfl ?_
    refine x_get fX12_9 rfl dX12_raises_21 (by with_reducible repeat first | assumption | exact mH_0 ok | exact mH_1 | exact hset_s | refine mH_o (by first | assumption | exact nA ok (by omega) (by omega) (by omega)) (by first | assumption | exact nA ok (by omega) (by omega) (by omega)) ?_ | refine hget_n (by first | assumption | exact Ne.symm (by assumption) | exact nA ok (by omega) (by omega) (by omega)) ?_) (by rfl) ?_
    refine x_iconst (v := 3) dX12_raises_24 rfl ?_
    refine x_mald (i := 3) (v := nI np) (by first | exact Eq.refl (nI _) | exact ix_p _ _ | exact ix_o _ _ | exact ix_s _ | exact ix_s1 _ _ | (rw [ix_s]; exact nI_add _ _) | exact nI_add _ 1 | exact nI_add _ 2 | exact nI_add _ 3 | exact nI_add _ 4 | (rw [ix_o0]; exact nI_add _ 3) | (rw [ix_o0]; exact nI_add _ 4) | (rw [ix_o0]; exact nI_add _ _)) dX12_raises_25 (by omega) (hnp) ?_
    refine x_istore_n (L' := [(3, _), (0, _), (1, _), (2, _)]) dX12_raises_26 rfl (ble rfl) rfl ?_
    refine x_bipush (v := 12) dX12_raises_27 rfl ?_
    refine x_iconst (v := 4) dX12_raises_29 rfl ?_
    refine x_iload_n 2 dX12_raises_30 rfl rfl ?_
    refine x_imul dX12_raises_31 ?_
    refine x_iadd dX12_raises_32 ?_
    refine x_istore (L' := [(4, _), (3, _), (0, _), (1, _), (2, _)]) dX12_raises_33 (ble rfl) rfl ?_
    rw [ix_s]
    first | refine x_aload_n 2 dX12_raises_35 rfl rfl ?_ | refine x_aload_nN 2 dX12_raises_35 rfl rfl ?_
    refine x_iload_n 1 dX12_raises_36 rfl rfl ?_
    refine x_bipush (v := 16) dX12_raises_37 rfl ?_
    have J47 : ∀ v : Int32, v = b2i (nI np = 16) → XX l G mX12_raises (Rm 6 (0) (0)) (KQ G (Rm 6 (0) (0)) (fun w h' => ∃ r why' wha' beh' its' N', w = some (.int r) ∧ h' = mH G h (eMd G sv rem typ err lin why' wha' beh' its' siz att wro tol) N' ∧ DeedR (pRaise N (nI i) y) r why' wha' beh' its' N')) (0) (0) 47 [(4, .int (nI (12 + 4 * i))), (3, .int (nI np)), (0, .ref (Ad G 20)), (1, .int (nI i)), (2, .int y)] [.int v, .ref (Ad G 20)] (mH G h (eMd G sv rem typ err lin 0 wha 0 its siz att wro tol) N) := by
      intro v hvv
      subst hvv
      refine x_iconst (v := 1) dX12_raises_47 rfl ?_
      refine x_bipush (v := 16) dX12_raises_48 rfl ?_
      refine x_cV0 (As := [.int _, .int _, .int _]) (ct_X12_hinders ok _ _ _) vX12_82 rfl (x_recv (by with_reducible repeat first | assumption | exact mH_0 ok | exact mH_1 | exact hset_s | refine mH_o (by first | assumption | exact nA ok (by omega) (by omega) (by omega)) (by first | assumption | exact nA ok (by omega) (by omega) (by omega)) ?_ | refine hget_n (by first | assumption | exact Ne.symm (by assumption) | exact nA ok (by omega) (by omega) (by omega)) ?_) rfl) rfl ⟨ble rfl, ble rfl⟩ (ble rfl) dX12_raises_50 rfl ?_
      first | refine x_aload_n 2 dX12_raises_53 rfl rfl ?_ | refine x_aload_nN 2 dX12_raises_53 rfl rfl ?_
      first | refine x_aload_n 2 dX12_raises_54 rfl rfl ?_ | refine x_aload_nN 2 dX12_raises_54 rfl rfl ?_
      refine x_get fX12_9 rfl dX12_raises_55 (by with_reducible repeat first | assumption | exact mH_0 ok | exact mH_1 | exact hset_s | refine mH_o (by first | assumption | exact nA ok (by omega) (by omega) (by omega)) (by first | assumption | exact nA ok (by omega) (by omega) (by omega)) ?_ | refine hget_n (by first | assumption | exact Ne.symm (by assumption) | exact nA ok (by omega) (by omega) (by omega)) ?_) (by rfl) ?_
      refine x_iload 0 dX12_raises_58 rfl ?_
      refine x_iconst (v := 1) dX12_raises_60 rfl ?_
      refine x_iadd dX12_raises_61 ?_
      refine x_mald (i := 12 + 4 * i + 1) (v := N (13 + 4 * i)) (by first | exact Eq.refl (nI _) | exact ix_p _ _ | exact ix_o _ _ | exact ix_s _ | exact ix_s1 _ _ | (rw [ix_s]; exact nI_add _ _) | exact nI_add _ 1 | exact nI_add _ 2 | exact nI_add _ 3 | exact nI_add _ 4 | (rw [ix_o0]; exact nI_add _ 3) | (rw [ix_o0]; exact nI_add _ 4) | (rw [ix_o0]; exact nI_add _ _)) dX12_raises_62 (by omega) (congrArg N (by omega)) ?_
      refine x_iload_n 4 dX12_raises_63 rfl rfl ?_
      refine x_cS1 (As := [.int _]) (ct_X12_areaOf (by assumption)) vX12_105 rfl rfl ⟨ble rfl, ble rfl⟩ (ble rfl) dX12_raises_64 rfl ?_
      have J75 : ∀ v : Int32, v = b2i (N (13 + 4 * i) < kArea (kOf y)) → XX l G mX12_raises (Rm 6 (0) (0)) (KQ G (Rm 6 (0) (0)) (fun w h' => ∃ r why' wha' beh' its' N', w = some (.int r) ∧ h' = mH G h (eMd G sv rem typ err lin why' wha' beh' its' siz att wro tol) N' ∧ DeedR (pRaise N (nI i) y) r why' wha' beh' its' N')) (0) (0) 75 [(4, .int (nI (12 + 4 * i))), (3, .int (nI np)), (0, .ref (Ad G 20)), (1, .int (nI i)), (2, .int y)] [.int v, .ref (Ad G 20)] (mH G h (eMd G sv rem typ err lin (hW (b2i (nI np = 16)) 0 1) (hD (b2i (nI np = 16)) 0 wha 16) 0 its siz att wro tol) N) := by
        intro v hvv
        subst hvv
        refine x_iconst (v := 3) dX12_raises_75 rfl ?_
        refine x_iload_n 4 dX12_raises_76 rfl rfl ?_
        refine x_cS1 (As := [.int _]) (ct_X12_areaOf (by assumption)) vX12_105 rfl rfl ⟨ble rfl, ble rfl⟩ (ble rfl) dX12_raises_77 rfl ?_
        first | refine x_aload_n 2 dX12_raises_80 rfl rfl ?_ | refine x_aload_nN 2 dX12_raises_80 rfl rfl ?_
        refine x_get fX12_9 rfl dX12_raises_81 (by with_reducible repeat first | assumption | exact mH_0 ok | exact mH_1 | exact hset_s | refine mH_o (by first | assumption | exact nA ok (by omega) (by omega) (by omega)) (by first | assumption | exact nA ok (by omega) (by omega) (by omega)) ?_ | refine hget_n (by first | assumption | exact Ne.symm (by assumption) | exact nA ok (by omega) (by omega) (by omega)) ?_) (by rfl) ?_
        refine x_iload 0 dX12_raises_84 rfl ?_
        refine x_iconst (v := 1) dX12_raises_86 rfl ?_
        refine x_iadd dX12_raises_87 ?_
        refine x_mald (i := 12 + 4 * i + 1) (v := N (13 + 4 * i)) (by first | exact Eq.refl (nI _) | exact ix_p _ _ | exact ix_o _ _ | exact ix_s _ | exact ix_s1 _ _ | (rw [ix_s]; exact nI_add _ _) | exact nI_add _ 1 | exact nI_add _ 2 | exact nI_add _ 3 | exact nI_add _ 4 | (rw [ix_o0]; exact nI_add _ 3) | (rw [ix_o0]; exact nI_add _ 4) | (rw [ix_o0]; exact nI_add _ _)) dX12_raises_88 (by omega) (congrArg N (by omega)) ?_
        refine x_isub dX12_raises_89 ?_
        refine x_cV0 (As := [.int _, .int _, .int _]) (ct_X12_hinders ok _ _ _) vX12_82 rfl (x_recv (by with_reducible repeat first | assumption | exact mH_0 ok | exact mH_1 | exact hset_s | refine mH_o (by first | assumption | exact nA ok (by omega) (by omega) (by omega)) (by first | assumption | exact nA ok (by omega) (by omega) (by omega)) ?_ | refine hget_n (by first | assumption | exact Ne.symm (by assumption) | exact nA ok (by omega) (by omega) (by omega)) ?_) rfl) rfl ⟨ble rfl, ble rfl⟩ (ble rfl) dX12_raises_90 rfl ?_
        first | refine x_aload_n 2 dX12_raises_93 rfl rfl ?_ | refine x_aload_nN 2 dX12_raises_93 rfl rfl ?_
        refine x_get fX12_51 rfl dX12_raises_94 (by with_reducible repeat first | assumption | exact mH_0 ok | exact mH_1 | exact hset_s | refine mH_o (by first | assumption | exact nA ok (by omega) (by omega) (by omega)) (by first | assumption | exact nA ok (by omega) (by omega) (by omega)) ?_ | refine hget_n (by first | assumption | exact Ne.symm (by assumption) | exact nA ok (by omega) (by omega) (by omega)) ?_) (by rfl) ?_
        refine x_if_ne 200 dX12_raises_97 (by decide) (fun c97 => ?_) (fun c97 => ?_)
        · refine x_iload_n 1 dX12_raises_200 rfl rfl ?_
          refine x_iret rfl dX12_raises_201 ?_
          refine ⟨_, _, _, _, _, _, rfl, rfl, ?_⟩
          unfold pRaise
          rw [if_neg (fun z => z hsin), if_neg (fun z => z hk3), hcl, hnp, hcn]
          first | (by_cases z0 : nI np = 16 <;> by_cases z1 : N (13 + 4 * i) < kArea (kOf y) <;> simp [DeedR, hW, hD, b2i, z0, z1] at c97 ⊢; done) | (rw [if_neg hc.1, if_neg hc.2]; refine ⟨rfl, by simp [hW, b2i, hc.1, hc.2], rfl, ?_⟩; exact ra_row (i := i) (by omega) hnp15 hnp)
        · have hc : ¬ (nI np = 16) ∧ ¬ (N (13 + 4 * i) < kArea (kOf y)) := by by_cases z0 : nI np = 16 <;> by_cases z1 : N (13 + 4 * i) < kArea (kOf y) <;> simp [hW, b2i, z0, z1] at c97 ⊢
          have hnp15 : np < 16 := Nat.lt_of_le_of_ne hn16 (fun z => hc.1 (by rw [z]; rfl))
          first | refine x_aload_n 2 dX12_raises_100 rfl rfl ?_ | refine x_aload_nN 2 dX12_raises_100 rfl rfl ?_
          refine x_get fX12_9 rfl dX12_raises_101 (by with_reducible repeat first | assumption | exact mH_0 ok | exact mH_1 | exact hset_s | refine mH_o (by first | assumption | exact nA ok (by omega) (by omega) (by omega)) (by first | assumption | exact nA ok (by omega) (by omega) (by omega)) ?_ | refine hget_n (by first | assumption | exact Ne.symm (by assumption) | exact nA ok (by omega) (by omega) (by omega)) ?_) (by rfl) ?_
          refine x_iload 0 dX12_raises_104 rfl ?_
          refine x_iconst (v := 1) dX12_raises_106 rfl ?_
          refine x_iadd dX12_raises_107 ?_
          refine x_dup2 dX12_raises_108 rfl rfl ?_
          refine x_mald (i := 12 + 4 * i + 1) (v := N (13 + 4 * i)) (by first | exact Eq.refl (nI _) | exact ix_p _ _ | exact ix_o _ _ | exact ix_s _ | exact ix_s1 _ _ | (rw [ix_s]; exact nI_add _ _) | exact nI_add _ 1 | exact nI_add _ 2 | exact nI_add _ 3 | exact nI_add _ 4 | (rw [ix_o0]; exact nI_add _ 3) | (rw [ix_o0]; exact nI_add _ 4) | (rw [ix_o0]; exact nI_add _ _)) dX12_raises_109 (by omega) (congrArg N (by omega)) ?_
          refine x_iload_n 4 dX12_raises_110 rfl rfl ?_
          refine x_cS1 (As := [.int _]) (ct_X12_areaOf (by assumption)) vX12_105 rfl rfl ⟨ble rfl, ble rfl⟩ (ble rfl) dX12_raises_111 rfl ?_
          refine x_isub dX12_raises_114 ?_
          refine x_mast (i := 12 + 4 * i + 1) ok (by first | exact Eq.refl (nI _) | exact ix_p _ _ | exact ix_o _ _ | exact ix_s _ | exact ix_s1 _ _ | (rw [ix_s]; exact nI_add _ _) | exact nI_add _ 1 | exact nI_add _ 2 | exact nI_add _ 3 | exact nI_add _ 4 | (rw [ix_o0]; exact nI_add _ 3) | (rw [ix_o0]; exact nI_add _ 4) | (rw [ix_o0]; exact nI_add _ _)) dX12_raises_115 (by omega) ?_
          first | refine x_aload_n 2 dX12_raises_116 rfl rfl ?_ | refine x_aload_nN 2 dX12_raises_116 rfl rfl ?_
          refine x_get fX12_9 rfl dX12_raises_117 (by with_reducible repeat first | assumption | exact mH_0 ok | exact mH_1 | exact hset_s | refine mH_o (by first | assumption | exact nA ok (by omega) (by omega) (by omega)) (by first | assumption | exact nA ok (by omega) (by omega) (by omega)) ?_ | refine hget_n (by first | assumption | exact Ne.symm (by assumption) | exact nA ok (by omega) (by omega) (by omega)) ?_) (by rfl) ?_
          refine x_iload 0 dX12_raises_120 rfl ?_
          refine x_iconst (v := 2) dX12_raises_122 rfl ?_
          refine x_iadd dX12_raises_123 ?_
          refine x_dup2 dX12_raises_124 rfl rfl ?_
          refine x_mald (i := 12 + 4 * i + 2) (v := N (14 + 4 * i)) (by first | exact Eq.refl (nI _) | exact ix_p _ _ | exact ix_o _ _ | exact ix_s _ | exact ix_s1 _ _ | (rw [ix_s]; exact nI_add _ _) | exact nI_add _ 1 | exact nI_add _ 2 | exact nI_add _ 3 | exact nI_add _ 4 | (rw [ix_o0]; exact nI_add _ 3) | (rw [ix_o0]; exact nI_add _ 4) | (rw [ix_o0]; exact nI_add _ _)) dX12_raises_125 (by omega) (by rw [upd_ne (by omega)]; exact congrArg N (by omega)) ?_
          refine x_iconst (v := 1) dX12_raises_126 rfl ?_
          refine x_iadd dX12_raises_127 ?_
          refine x_mast (i := 12 + 4 * i + 2) ok (by first | exact Eq.refl (nI _) | exact ix_p _ _ | exact ix_o _ _ | exact ix_s _ | exact ix_s1 _ _ | (rw [ix_s]; exact nI_add _ _) | exact nI_add _ 1 | exact nI_add _ 2 | exact nI_add _ 3 | exact nI_add _ 4 | (rw [ix_o0]; exact nI_add _ 3) | (rw [ix_o0]; exact nI_add _ 4) | (rw [ix_o0]; exact nI_add _ _)) dX12_raises_128 (by omega) ?_
          refine x_iconst (v := 0) dX12_raises_129 rfl ?_
          refine x_istore (L' := [(5, _), (4, _), (3, _), (0, _), (1, _), (2, _)]) dX12_raises_130 (ble rfl) rfl ?_
          refine x_eqH (h' := mH G h (eMd G sv rem typ err lin (hW (b2i (N (13 + 4 * i) < kArea (kOf y))) (hW (b2i (nI np = 16)) 0 1) 3) (hD (b2i (N (13 + 4 * i) < kArea (kOf y))) (hW (b2i (nI np = 16)) 0 1) (hD (b2i (nI np = 16)) 0 wha 16) (kArea (kOf y) - N (13 + 4 * i))) 0 its siz att wro tol) (zrN (upd (upd N (12 + 4 * i + 1) (N (13 + 4 * i) - kArea (kOf y))) (12 + 4 * i + 2) (N (14 + 4 * i) + 1)) np 0)) (by rw [zrN_0]) ?_
          refine x_locs (L' := [(5, _), (4, _), (3, _), (0, _), (1, _), (2, _)]) [0, 1, 2, 3, 4, 5] rfl ?_
          refine dn (P := fun w => XX l G mX12_raises (Rm 6 (0) (0)) (KQ G (Rm 6 (0) (0)) (fun w h' => ∃ r why' wha' beh' its' N', w = some (.int r) ∧ h' = mH G h (eMd G sv rem typ err lin why' wha' beh' its' siz att wro tol) N' ∧ DeedR (pRaise N (nI i) y) r why' wha' beh' its' N')) (0) (0) 132 [(5, .int (nI w)), (4, .int (nI (12 + 4 * i))), (3, .int (nI np)), (0, .ref (Ad G 20)), (1, .int (nI i)), (2, .int y)] [] (mH G h (eMd G sv rem typ err lin (hW (b2i (N (13 + 4 * i) < kArea (kOf y))) (hW (b2i (nI np = 16)) 0 1) 3) (hD (b2i (N (13 + 4 * i) < kArea (kOf y))) (hW (b2i (nI np = 16)) 0 1) (hD (b2i (nI np = 16)) 0 wha 16) (kArea (kOf y) - N (13 + 4 * i))) 0 its siz att wro tol) (zrN (upd (upd N (12 + 4 * i + 1) (N (13 + 4 * i) - kArea (kOf y))) (12 + 4 * i + 2) (N (14 + 4 * i) + 1)) np w))) (n := 8) ?_ (fun w hw ihw => ?_)
          · refine x_iload 0 dX12_raises_132 rfl ?_
            refine x_bipush (v := 8) dX12_raises_134 rfl ?_
            refine x_icmp_ge 153 dX12_raises_136 (by decide) (fun _ => ?_) (fun z => by first | exact absurd (Int32.le_refl _) z | exact absurd z (Int32.le_refl _))
            first | refine x_aload_n 3 dX12_raises_153 rfl rfl ?_ | refine x_aload_nN 3 dX12_raises_153 rfl rfl ?_
            refine x_iload_n 2 dX12_raises_154 rfl rfl ?_
            refine x_iconst (v := 0) dX12_raises_155 rfl ?_
            refine x_iload_n 5 dX12_raises_156 rfl rfl ?_
            refine x_cV0 (As := [.int _, .int _, .int _]) (ct_X12_becomes_0 ok (i := np) (by omega) _) vX12_123 rfl (x_recv (by with_reducible repeat first | assumption | exact mH_0 ok | exact mH_1 | exact hset_s | refine mH_o (by first | assumption | exact nA ok (by omega) (by omega) (by omega)) (by first | assumption | exact nA ok (by omega) (by omega) (by omega)) ?_ | refine hget_n (by first | assumption | exact Ne.symm (by assumption) | exact nA ok (by omega) (by omega) (by omega)) ?_) rfl) rfl ⟨ble rfl, ble rfl⟩ (ble rfl) dX12_raises_157 rfl ?_
            first | refine x_aload_n 3 dX12_raises_160 rfl rfl ?_ | refine x_aload_nN 3 dX12_raises_160 rfl rfl ?_
            refine x_iload_n 2 dX12_raises_161 rfl rfl ?_
            refine x_iconst (v := 1) dX12_raises_162 rfl ?_
            first | refine x_aload_n 3 dX12_raises_163 rfl rfl ?_ | refine x_aload_nN 3 dX12_raises_163 rfl rfl ?_
            refine x_get fX12_9 rfl dX12_raises_164 (by with_reducible repeat first | assumption | exact mH_0 ok | exact mH_1 | exact hset_s | refine mH_o (by first | assumption | exact nA ok (by omega) (by omega) (by omega)) (by first | assumption | exact nA ok (by omega) (by omega) (by omega)) ?_ | refine hget_n (by first | assumption | exact Ne.symm (by assumption) | exact nA ok (by omega) (by omega) (by omega)) ?_) (by rfl) ?_
            refine x_iload 1 dX12_raises_167 rfl ?_
            refine x_mald (i := 12 + 4 * i) (v := N (12 + 4 * i)) (by first | exact Eq.refl (nI _) | exact ix_p _ _ | exact ix_o _ _ | exact ix_s _ | exact ix_s1 _ _ | (rw [ix_s]; exact nI_add _ _) | exact nI_add _ 1 | exact nI_add _ 2 | exact nI_add _ 3 | exact nI_add _ 4 | (rw [ix_o0]; exact nI_add _ 3) | (rw [ix_o0]; exact nI_add _ 4) | (rw [ix_o0]; exact nI_add _ _)) dX12_raises_169 (by omega) (by simp (disch := omega) only [upd_ne, zrN_out]) ?_
            refine x_cV0 (As := [.int _, .int _, .int _]) (ct_X12_becomes_1 ok (i := np) (by omega) _) vX12_123 rfl (x_recv (by with_reducible repeat first | assumption | exact mH_0 ok | exact mH_1 | exact hset_s | refine mH_o (by first | assumption | exact nA ok (by omega) (by omega) (by omega)) (by first | assumption | exact nA ok (by omega) (by omega) (by omega)) ?_ | refine hget_n (by first | assumption | exact Ne.symm (by assumption) | exact nA ok (by omega) (by omega) (by omega)) ?_) rfl) rfl ⟨ble rfl, ble rfl⟩ (ble rfl) dX12_raises_170 rfl ?_
            first | refine x_aload_n 3 dX12_raises_173 rfl rfl ?_ | refine x_aload_nN 3 dX12_raises_173 rfl rfl ?_
            refine x_iload_n 2 dX12_raises_174 rfl rfl ?_
            refine x_bipush (v := 6) dX12_raises_175 rfl ?_
            refine x_bipush (v := -4) dX12_raises_177 rfl ?_
            refine x_cV0 (As := [.int _, .int _, .int _]) (ct_X12_becomes_6 ok (i := np) (by omega) _) vX12_123 rfl (x_recv (by with_reducible repeat first | assumption | exact mH_0 ok | exact mH_1 | exact hset_s | refine mH_o (by first | assumption | exact nA ok (by omega) (by omega) (by omega)) (by first | assumption | exact nA ok (by omega) (by omega) (by omega)) ?_ | refine hget_n (by first | assumption | exact Ne.symm (by assumption) | exact nA ok (by omega) (by omega) (by omega)) ?_) rfl) rfl ⟨ble rfl, ble rfl⟩ (ble rfl) dX12_raises_179 rfl ?_
            first | refine x_aload_n 3 dX12_raises_182 rfl rfl ?_ | refine x_aload_nN 3 dX12_raises_182 rfl rfl ?_
            refine x_iload_n 2 dX12_raises_183 rfl rfl ?_
            refine x_bipush (v := 7) dX12_raises_184 rfl ?_
            refine x_iload_n 4 dX12_raises_186 rfl rfl ?_
            refine x_cV0 (As := [.int _, .int _, .int _]) (ct_X12_becomes_7 ok (i := np) (by omega) _) vX12_123 rfl (x_recv (by with_reducible repeat first | assumption | exact mH_0 ok | exact mH_1 | exact hset_s | refine mH_o (by first | assumption | exact nA ok (by omega) (by omega) (by omega)) (by first | assumption | exact nA ok (by omega) (by omega) (by omega)) ?_ | refine hget_n (by first | assumption | exact Ne.symm (by assumption) | exact nA ok (by omega) (by omega) (by omega)) ?_) rfl) rfl ⟨ble rfl, ble rfl⟩ (ble rfl) dX12_raises_187 rfl ?_
            first | refine x_aload_n 3 dX12_raises_190 rfl rfl ?_ | refine x_aload_nN 3 dX12_raises_190 rfl rfl ?_
            refine x_get fX12_9 rfl dX12_raises_191 (by with_reducible repeat first | assumption | exact mH_0 ok | exact mH_1 | exact hset_s | refine mH_o (by first | assumption | exact nA ok (by omega) (by omega) (by omega)) (by first | assumption | exact nA ok (by omega) (by omega) (by omega)) ?_ | refine hget_n (by first | assumption | exact Ne.symm (by assumption) | exact nA ok (by omega) (by omega) (by omega)) ?_) (by rfl) ?_
            refine x_iconst (v := 3) dX12_raises_194 rfl ?_
            refine x_dup2 dX12_raises_195 rfl rfl ?_
            refine x_mald (i := 3) (v := N 3) (by first | exact Eq.refl (nI _) | exact ix_p _ _ | exact ix_o _ _ | exact ix_s _ | exact ix_s1 _ _ | (rw [ix_s]; exact nI_add _ _) | exact nI_add _ 1 | exact nI_add _ 2 | exact nI_add _ 3 | exact nI_add _ 4 | (rw [ix_o0]; exact nI_add _ 3) | (rw [ix_o0]; exact nI_add _ 4) | (rw [ix_o0]; exact nI_add _ _)) dX12_raises_196 (by omega) (by simp (disch := omega) only [upd_ne, zrN_out]) ?_
            refine x_iconst (v := 1) dX12_raises_197 rfl ?_
            refine x_iadd dX12_raises_198 ?_
            refine x_mast (i := 3) ok (by first | exact Eq.refl (nI _) | exact ix_p _ _ | exact ix_o _ _ | exact ix_s _ | exact ix_s1 _ _ | (rw [ix_s]; exact nI_add _ _) | exact nI_add _ 1 | exact nI_add _ 2 | exact nI_add _ 3 | exact nI_add _ 4 | (rw [ix_o0]; exact nI_add _ 3) | (rw [ix_o0]; exact nI_add _ 4) | (rw [ix_o0]; exact nI_add _ _)) dX12_raises_199 (by omega) ?_
            refine x_iload_n 2 dX12_raises_200 rfl rfl ?_
            refine x_iret rfl dX12_raises_201 ?_
            refine ⟨_, _, _, _, _, _, rfl, rfl, ?_⟩
            unfold pRaise
            rw [if_neg (fun z => z hsin), if_neg (fun z => z hk3), hcl, hnp, hcn]
            first | (by_cases z0 : nI np = 16 <;> by_cases z1 : N (13 + 4 * i) < kArea (kOf y) <;> simp [DeedR, hW, hD, b2i, z0, z1] at c97 ⊢; done) | (rw [if_neg hc.1, if_neg hc.2]; refine ⟨rfl, by simp [hW, b2i, hc.1, hc.2], rfl, ?_⟩; exact ra_row (i := i) (by omega) hnp15 hnp)
          · refine x_iload 0 dX12_raises_132 rfl ?_
            refine x_bipush (v := 8) dX12_raises_134 rfl ?_
            refine x_icmp_ge 153 dX12_raises_136 (by decide) (fun z => by first | exact absurd z (show ¬ nI 8 ≤ nI w from nI_ge hw (by omega)) | exact absurd (show ¬ nI 8 ≤ nI w from nI_ge hw (by omega)) z) (fun _ => ?_)
            first | refine x_aload_n 3 dX12_raises_139 rfl rfl ?_ | refine x_aload_nN 3 dX12_raises_139 rfl rfl ?_
            refine x_iload_n 2 dX12_raises_140 rfl rfl ?_
            refine x_iload 0 dX12_raises_141 rfl ?_
            refine x_iconst (v := 0) dX12_raises_143 rfl ?_
            refine x_cV0 (As := [.int _, .int _, .int _]) (ct_X12_becomes_w ok (i := np) (by omega) hw _) vX12_123 rfl (x_recv (by with_reducible repeat first | assumption | exact mH_0 ok | exact mH_1 | exact hset_s | refine mH_o (by first | assumption | exact nA ok (by omega) (by omega) (by omega)) (by first | assumption | exact nA ok (by omega) (by omega) (by omega)) ?_ | refine hget_n (by first | assumption | exact Ne.symm (by assumption) | exact nA ok (by omega) (by omega) (by omega)) ?_) rfl) rfl ⟨ble rfl, ble rfl⟩ (ble rfl) dX12_raises_144 rfl ?_
            refine x_iinc (L' := [(5, _), (4, _), (3, _), (0, _), (1, _), (2, _)]) (j := 0) (nI (_ + 1)) dX12_raises_147 rfl (nI_1 _) (ble rfl) rfl ?_
            refine x_goto 132 dX12_raises_150 (by decide) ?_
            refine x_locs (L' := [(5, _), (4, _), (3, _), (0, _), (1, _), (2, _)]) [0, 1, 2, 3, 4, 5] rfl ?_
            rw [zrN_s]
            exact ihw
      refine x_icmp_ge 74 dX12_raises_67 (by decide) (fun c67 => ?_) (fun c67 => ?_)
      · refine x_iconst (v := 0) dX12_raises_74 rfl ?_
        refine x_locs (L' := [(4, _), (3, _), (0, _), (1, _), (2, _)]) [0, 1, 2, 3, 4] rfl ?_
        refine J75 _ ?_
        unfold b2i
        first | exact (if_pos (by first | assumption | (apply Int32.not_le.mp; assumption) | (apply Int32.not_lt.mp; assumption))).symm | exact (if_neg (by first | assumption | (apply Int32.not_lt.mpr; assumption) | (apply Int32.not_le.mpr; assumption))).symm
      · refine x_iconst (v := 1) dX12_raises_70 rfl ?_
        refine x_goto 75 dX12_raises_71 (by decide) ?_
        refine x_locs (L' := [(4, _), (3, _), (0, _), (1, _), (2, _)]) [0, 1, 2, 3, 4] rfl ?_
        refine J75 _ ?_
        unfold b2i
        first | exact (if_pos (by first | assumption | (apply Int32.not_le.mp; assumption) | (apply Int32.not_lt.mp; assumption))).symm | exact (if_neg (by first | assumption | (apply Int32.not_lt.mpr; assumption) | (apply Int32.not_le.mpr; assumption))).symm
    refine x_icmp_ne 46 dX12_raises_39 (by decide) (fun c39 => ?_) (fun c39 => ?_)
    · refine x_iconst (v := 0) dX12_raises_46 rfl ?_
      refine x_locs (L' := [(4, _), (3, _), (0, _), (1, _), (2, _)]) [0, 1, 2, 3, 4] rfl ?_
      refine J47 _ ?_
      unfold b2i
      first | exact (if_pos (by first | assumption | (apply Int32.not_le.mp; assumption) | (apply Int32.not_lt.mp; assumption))).symm | exact (if_neg (by first | assumption | (apply Int32.not_lt.mpr; assumption) | (apply Int32.not_le.mpr; assumption))).symm
    · refine x_iconst (v := 1) dX12_raises_42 rfl ?_
      refine x_goto 47 dX12_raises_43 (by decide) ?_
      refine x_locs (L' := [(4, _), (3, _), (0, _), (1, _), (2, _)]) [0, 1, 2, 3, 4] rfl ?_
      refine J47 _ ?_
      unfold b2i
      first | exact (if_pos (by first | assumption | (apply Int32.not_le.mp; assumption) | (apply Int32.not_lt.mp; assumption))).symm | exact (if_neg (by first | assumption | (apply Int32.not_lt.mpr; assumption) | (apply Int32.not_le.mpr; assumption))).symm
  · refine x_bipush (v := -2) dX12_raises_17 rfl ?_
    refine x_iret rfl dX12_raises_19 ?_
    refine ⟨_, _, _, _, _, _, rfl, rfl, ?_⟩
    unfold pRaise
    rw [if_neg (fun z => z hsin), if_pos (k3_no c14)]
    exact ⟨rfl, rfl, rfl⟩
set_option maxRecDepth 100000 in
set_option maxHeartbeats 4000000 in
theorem ct_cook_o {l : Launch} {G : Gl} {h : Hp} {sv rem typ err lin wha its siz att wro tol : Int32} {N : Nat → Int32} (ok : Ok G) {np : Nat} (hn16 : np ≤ 16) (hnp : N 3 = nI np) (x y : Int32) (hx : ¬ (0 ≤ x ∧ x < N 3)) : Ct l G mX12_cooks 6 (0) (0) [.ref (Ad G 20), .int x, .int y] (mH G h (eMd G sv rem typ err lin 0 wha 0 its siz att wro tol) N) (fun w h' => ∃ r why' wha' beh' its' N', w = some (.int r) ∧ h' = mH G h (eMd G sv rem typ err lin why' wha' beh' its' siz att wro tol) N' ∧ DeedR (pCook N x y) r why' wha' beh' its' N') := by
  refine Ct.of (L := [(0, _), (1, _), (2, _)]) (by decide) (ble rfl) rfl ?_
  first | refine x_aload_n 0 dX12_cooks_0 rfl rfl ?_ | refine x_aload_nN 0 dX12_cooks_0 rfl rfl ?_
  refine x_iload_n 1 dX12_cooks_1 rfl rfl ?_
  refine x_cV1 (As := [.int _]) (ct_isPot_out ok hnp hn16 hx) vX12_129 rfl (x_recv (by with_reducible repeat first | assumption | exact mH_0 ok | exact mH_1 | exact hset_s | refine mH_o (by first | assumption | exact nA ok (by omega) (by omega) (by omega)) (by first | assumption | exact nA ok (by omega) (by omega) (by omega)) ?_ | refine hget_n (by first | assumption | exact Ne.symm (by assumption) | exact nA ok (by omega) (by omega) (by omega)) ?_) rfl) rfl ⟨ble rfl, ble rfl⟩ (ble rfl) dX12_cooks_2 rfl ?_
  refine x_if_ne 10 dX12_cooks_5 (by decide) (fun z => by first | exact absurd z (fun z => z rfl) | exact absurd (fun z => z rfl) z) (fun _ => ?_)
  refine x_iconst (v := -1) dX12_cooks_8 rfl ?_
  refine x_iret rfl dX12_cooks_9 ?_
  refine ⟨_, _, _, _, _, _, rfl, rfl, ?_⟩
  unfold pCook
  rw [if_pos hx]
  exact ⟨rfl, rfl, rfl⟩
set_option maxRecDepth 100000 in
set_option maxHeartbeats 4000000 in
theorem ct_cook_n {l : Launch} {G : Gl} {h : Hp} {sv rem typ err lin wha its siz att wro tol : Int32} {N : Nat → Int32} (ok : Ok G) {i np : Nat} (hi : i < np) (hn16 : np ≤ 16) (hnp : N 3 = nI np) (P : PotI N i) (x : Int32) (hx0 : x < 0) : Ct l G mX12_cooks 6 (0) (0) [.ref (Ad G 20), .int (nI i), .int x] (mH G h (eMd G sv rem typ err lin 0 wha 0 its siz att wro tol) N) (fun w h' => ∃ r why' wha' beh' its' N', w = some (.int r) ∧ h' = mH G h (eMd G sv rem typ err lin why' wha' beh' its' siz att wro tol) N' ∧ DeedR (pCook N (nI i) x) r why' wha' beh' its' N') := by
  have hcl := kOf_nI (j := i) (by omega)
  have hin : 0 ≤ nI i ∧ nI i < N 3 := ⟨nI_pos' (by omega), by rw [hnp]; exact nI_lt hi (by omega)⟩
  have hi16 : i < 16 := by omega
  have x1 : x < 1 := Int32.lt_trans hx0 (by decide)
  refine Ct.of (L := [(0, _), (1, _), (2, _)]) (by decide) (ble rfl) rfl ?_
  first | refine x_aload_n 0 dX12_cooks_0 rfl rfl ?_ | refine x_aload_nN 0 dX12_cooks_0 rfl rfl ?_
  refine x_iload_n 1 dX12_cooks_1 rfl rfl ?_
  refine x_cV1 (As := [.int _]) (ct_isPot_in ok hnp hn16 hi) vX12_129 rfl (x_recv (by with_reducible repeat first | assumption | exact mH_0 ok | exact mH_1 | exact hset_s | refine mH_o (by first | assumption | exact nA ok (by omega) (by omega) (by omega)) (by first | assumption | exact nA ok (by omega) (by omega) (by omega)) ?_ | refine hget_n (by first | assumption | exact Ne.symm (by assumption) | exact nA ok (by omega) (by omega) (by omega)) ?_) rfl) rfl ⟨ble rfl, ble rfl⟩ (ble rfl) dX12_cooks_2 rfl ?_
  refine x_if_ne 10 dX12_cooks_5 (by decide) (fun _ => ?_) (fun z => by first | exact absurd (show ¬ (1 : Int32) = 0 by decide) z | exact absurd z (show ¬ (1 : Int32) = 0 by decide))
  refine x_iload_n 2 dX12_cooks_10 rfl rfl ?_
  refine x_iconst (v := 1) dX12_cooks_11 rfl ?_
  refine x_bipush (v := 99) dX12_cooks_12 rfl ?_
  refine x_cS1 (As := [.int _, .int _, .int _]) (ct_X12_isIn _ _ _) vX12_74 rfl rfl ⟨ble rfl, ble rfl⟩ (ble rfl) dX12_cooks_14 rfl ?_
  refine x_if_ne 23 dX12_cooks_17 (by decide) (fun z => by first | exact absurd z (fun z => z (inI_0.mpr (Or.inl x1))) | exact absurd (fun z => z (inI_0.mpr (Or.inl x1))) z) (fun _ => ?_)
  refine x_bipush (v := -2) dX12_cooks_20 rfl ?_
  refine x_iret rfl dX12_cooks_22 ?_
  refine ⟨_, _, _, _, _, _, rfl, rfl, ?_⟩
  unfold pCook
  rw [if_neg (fun z => z hin), if_pos (Or.inl x1)]
  exact ⟨rfl, rfl, rfl⟩
theorem ck_rem {t a c : Nat} (h0 : 0 < c) : (if t - min t (a / c) = 0 then (0 : Int32) else nI (a % c)) = (if t - min t (a / c) = 0 then 0 else nI (a - min t (a / c) * c)) := by
  by_cases q : t - min t (a / c) = 0
  · rw [if_pos q, if_pos q]
  · rw [if_neg q, if_neg q]
    congr 1
    have h1 : min t (a / c) = a / c := by omega
    rw [h1]
    have h3 := Nat.div_add_mod a c
    rw [Nat.mul_comm] at h3
    omega
set_option maxRecDepth 100000 in
set_option maxHeartbeats 4000000 in
theorem ct_cook_i {l : Launch} {G : Gl} {h : Hp} {sv rem typ err lin wha its siz att wro tol : Int32} {N : Nat → Int32} (ok : Ok G) {i np : Nat} (hi : i < np) (hn16 : np ≤ 16) (hnp : N 3 = nI np) (P : PotI N i) {xn : Nat} (hxn : xn < 2 ^ 31) : Ct l G mX12_cooks 6 (0) (0) [.ref (Ad G 20), .int (nI i), .int (nI xn)] (mH G h (eMd G sv rem typ err lin 0 wha 0 its siz att wro tol) N) (fun w h' => ∃ r why' wha' beh' its' N', w = some (.int r) ∧ h' = mH G h (eMd G sv rem typ err lin why' wha' beh' its' siz att wro tol) N' ∧ DeedR (pCook N (nI i) (nI xn)) r why' wha' beh' its' N') := by
  obtain ⟨hK, ⟨g, hg, hg1, hg9⟩, ⟨b, hb, hb2⟩, ⟨t, ht, ht9⟩, ⟨r0, hr0, hr6⟩⟩ := id P
  have hcl := kOf_nI (j := i) (by omega)
  have hin : 0 ≤ nI i ∧ nI i < N 3 := ⟨nI_pos' (by omega), by rw [hnp]; exact nI_lt hi (by omega)⟩
  have hi16 : i < 16 := by omega
  obtain ⟨km, km0, km6⟩ := kMeal_n _ hK.2
  have hm0 : ¬ nI (kMealN (kOf (N (60 + 8 * i)))) = 0 := nI_ne0 km0 (by omega)
  refine Ct.of (L := [(0, _), (1, _), (2, _)]) (by decide) (ble rfl) rfl ?_
  first | refine x_aload_n 0 dX12_cooks_0 rfl rfl ?_ | refine x_aload_nN 0 dX12_cooks_0 rfl rfl ?_
  refine x_iload_n 1 dX12_cooks_1 rfl rfl ?_
  refine x_cV1 (As := [.int _]) (ct_isPot_in ok hnp hn16 hi) vX12_129 rfl (x_recv (by with_reducible repeat first | assumption | exact mH_0 ok | exact mH_1 | exact hset_s | refine mH_o (by first | assumption | exact nA ok (by omega) (by omega) (by omega)) (by first | assumption | exact nA ok (by omega) (by omega) (by omega)) ?_ | refine hget_n (by first | assumption | exact Ne.symm (by assumption) | exact nA ok (by omega) (by omega) (by omega)) ?_) rfl) rfl ⟨ble rfl, ble rfl⟩ (ble rfl) dX12_cooks_2 rfl ?_
  refine x_if_ne 10 dX12_cooks_5 (by decide) (fun _ => ?_) (fun z => by first | exact absurd (show ¬ (1 : Int32) = 0 by decide) z | exact absurd z (show ¬ (1 : Int32) = 0 by decide))
  refine x_iload_n 2 dX12_cooks_10 rfl rfl ?_
  refine x_iconst (v := 1) dX12_cooks_11 rfl ?_
  refine x_bipush (v := 99) dX12_cooks_12 rfl ?_
  refine x_cS1 (As := [.int _, .int _, .int _]) (ct_X12_isIn _ _ _) vX12_74 rfl rfl ⟨ble rfl, ble rfl⟩ (ble rfl) dX12_cooks_14 rfl ?_
  refine x_if_ne 23 dX12_cooks_17 (by decide) (fun c17 => ?_) (fun c17 => ?_)
  · have hx99 : xn ≤ 99 := Nat.not_lt.mp fun z => c17 (inI_0.mpr (Or.inr (show nI 99 < nI xn from nI_lt z hxn)))
    first | refine x_aload_n 0 dX12_cooks_23 rfl rfl ?_ | refine x_aload_nN 0 dX12_cooks_23 rfl rfl ?_
    first | refine x_aload_n 0 dX12_cooks_24 rfl rfl ?_ | refine x_aload_nN 0 dX12_cooks_24 rfl rfl ?_
    refine x_iload_n 1 dX12_cooks_25 rfl rfl ?_
    refine x_cV1 (As := [.int _]) (ct_X12_isSold ok (by omega)) vX12_132 rfl (x_recv (by with_reducible repeat first | assumption | exact mH_0 ok | exact mH_1 | exact hset_s | refine mH_o (by first | assumption | exact nA ok (by omega) (by omega) (by omega)) (by first | assumption | exact nA ok (by omega) (by omega) (by omega)) ?_ | refine hget_n (by first | assumption | exact Ne.symm (by assumption) | exact nA ok (by omega) (by omega) (by omega)) ?_) rfl) rfl ⟨ble rfl, ble rfl⟩ (ble rfl) dX12_cooks_26 rfl ?_
    refine x_iconst (v := 4) dX12_cooks_29 rfl ?_
    first | refine x_aload_n 0 dX12_cooks_30 rfl rfl ?_ | refine x_aload_nN 0 dX12_cooks_30 rfl rfl ?_
    refine x_iload_n 1 dX12_cooks_31 rfl rfl ?_
    refine x_bipush (v := 6) dX12_cooks_32 rfl ?_
    refine x_cV1 (As := [.int _, .int _]) (ct_X12_of_6 ok (by omega)) vX12_101 rfl (x_recv (by with_reducible repeat first | assumption | exact mH_0 ok | exact mH_1 | exact hset_s | refine mH_o (by first | assumption | exact nA ok (by omega) (by omega) (by omega)) (by first | assumption | exact nA ok (by omega) (by omega) (by omega)) ?_ | refine hget_n (by first | assumption | exact Ne.symm (by assumption) | exact nA ok (by omega) (by omega) (by omega)) ?_) rfl) rfl ⟨ble rfl, ble rfl⟩ (ble rfl) dX12_cooks_34 rfl ?_
    refine x_cV0 (As := [.int _, .int _, .int _]) (ct_X12_hinders ok _ _ _) vX12_82 rfl (x_recv (by with_reducible repeat first | assumption | exact mH_0 ok | exact mH_1 | exact hset_s | refine mH_o (by first | assumption | exact nA ok (by omega) (by omega) (by omega)) (by first | assumption | exact nA ok (by omega) (by omega) (by omega)) ?_ | refine hget_n (by first | assumption | exact Ne.symm (by assumption) | exact nA ok (by omega) (by omega) (by omega)) ?_) rfl) rfl ⟨ble rfl, ble rfl⟩ (ble rfl) dX12_cooks_37 rfl ?_
    first | refine x_aload_n 0 dX12_cooks_40 rfl rfl ?_ | refine x_aload_nN 0 dX12_cooks_40 rfl rfl ?_
    first | refine x_aload_n 0 dX12_cooks_41 rfl rfl ?_ | refine x_aload_nN 0 dX12_cooks_41 rfl rfl ?_
    refine x_iload_n 1 dX12_cooks_42 rfl rfl ?_
    refine x_cV1 (As := [.int _]) (ct_X12_isCracked ok (by omega) (by assumption)) vX12_135 rfl (x_recv (by with_reducible repeat first | assumption | exact mH_0 ok | exact mH_1 | exact hset_s | refine mH_o (by first | assumption | exact nA ok (by omega) (by omega) (by omega)) (by first | assumption | exact nA ok (by omega) (by omega) (by omega)) ?_ | refine hget_n (by first | assumption | exact Ne.symm (by assumption) | exact nA ok (by omega) (by omega) (by omega)) ?_) rfl) rfl ⟨ble rfl, ble rfl⟩ (ble rfl) dX12_cooks_43 rfl ?_
    refine x_iconst (v := 5) dX12_cooks_46 rfl ?_
    refine x_iload_n 1 dX12_cooks_47 rfl rfl ?_
    refine x_cV0 (As := [.int _, .int _, .int _]) (ct_X12_hinders ok _ _ _) vX12_82 rfl (x_recv (by with_reducible repeat first | assumption | exact mH_0 ok | exact mH_1 | exact hset_s | refine mH_o (by first | assumption | exact nA ok (by omega) (by omega) (by omega)) (by first | assumption | exact nA ok (by omega) (by omega) (by omega)) ?_ | refine hget_n (by first | assumption | exact Ne.symm (by assumption) | exact nA ok (by omega) (by omega) (by omega)) ?_) rfl) rfl ⟨ble rfl, ble rfl⟩ (ble rfl) dX12_cooks_48 rfl ?_
    first | refine x_aload_n 0 dX12_cooks_51 rfl rfl ?_ | refine x_aload_nN 0 dX12_cooks_51 rfl rfl ?_
    first | refine x_aload_n 0 dX12_cooks_52 rfl rfl ?_ | refine x_aload_nN 0 dX12_cooks_52 rfl rfl ?_
    refine x_iload_n 1 dX12_cooks_53 rfl rfl ?_
    refine x_iconst (v := 3) dX12_cooks_54 rfl ?_
    refine x_cV1 (As := [.int _, .int _]) (ct_X12_of_3 ok (by omega)) vX12_101 rfl (x_recv (by with_reducible repeat first | assumption | exact mH_0 ok | exact mH_1 | exact hset_s | refine mH_o (by first | assumption | exact nA ok (by omega) (by omega) (by omega)) (by first | assumption | exact nA ok (by omega) (by omega) (by omega)) ?_ | refine hget_n (by first | assumption | exact Ne.symm (by assumption) | exact nA ok (by omega) (by omega) (by omega)) ?_) rfl) rfl ⟨ble rfl, ble rfl⟩ (ble rfl) dX12_cooks_55 rfl ?_
    rw [ht]
    have J66 : ∀ v : Int32, v = b2i (nI t = 0) → XX l G mX12_cooks (Rm 6 (0) (0)) (KQ G (Rm 6 (0) (0)) (fun w h' => ∃ r why' wha' beh' its' N', w = some (.int r) ∧ h' = mH G h (eMd G sv rem typ err lin why' wha' beh' its' siz att wro tol) N' ∧ DeedR (pCook N (nI i) (nI xn)) r why' wha' beh' its' N')) (0) (0) 66 [(0, .ref (Ad G 20)), (1, .int (nI i)), (2, .int (nI xn))] [.int v, .ref (Ad G 20)] (mH G h (eMd G sv rem typ err lin (hW (crackedK (kOf (N (60 + 8 * i))) (N (61 + 8 * i)) (N (62 + 8 * i))) (hW (soldK (N (66 + 8 * i))) 0 4) 5) (hD (crackedK (kOf (N (60 + 8 * i))) (N (61 + 8 * i)) (N (62 + 8 * i))) (hW (soldK (N (66 + 8 * i))) 0 4) (hD (soldK (N (66 + 8 * i))) 0 wha (N (66 + 8 * i))) (nI i)) 0 its siz att wro tol) N) := by
      intro v hvv
      subst hvv
      refine x_bipush (v := 9) dX12_cooks_66 rfl ?_
      refine x_iload_n 1 dX12_cooks_68 rfl rfl ?_
      refine x_cV0 (As := [.int _, .int _, .int _]) (ct_X12_hinders ok _ _ _) vX12_82 rfl (x_recv (by with_reducible repeat first | assumption | exact mH_0 ok | exact mH_1 | exact hset_s | refine mH_o (by first | assumption | exact nA ok (by omega) (by omega) (by omega)) (by first | assumption | exact nA ok (by omega) (by omega) (by omega)) ?_ | refine hget_n (by first | assumption | exact Ne.symm (by assumption) | exact nA ok (by omega) (by omega) (by omega)) ?_) rfl) rfl ⟨ble rfl, ble rfl⟩ (ble rfl) dX12_cooks_69 rfl ?_
      first | refine x_aload_n 0 dX12_cooks_72 rfl rfl ?_ | refine x_aload_nN 0 dX12_cooks_72 rfl rfl ?_
      refine x_iload_n 1 dX12_cooks_73 rfl rfl ?_
      refine x_iconst (v := 0) dX12_cooks_74 rfl ?_
      refine x_cV1 (As := [.int _, .int _]) (ct_X12_of_0 ok (by omega)) vX12_101 rfl (x_recv (by with_reducible repeat first | assumption | exact mH_0 ok | exact mH_1 | exact hset_s | refine mH_o (by first | assumption | exact nA ok (by omega) (by omega) (by omega)) (by first | assumption | exact nA ok (by omega) (by omega) (by omega)) ?_ | refine hget_n (by first | assumption | exact Ne.symm (by assumption) | exact nA ok (by omega) (by omega) (by omega)) ?_) rfl) rfl ⟨ble rfl, ble rfl⟩ (ble rfl) dX12_cooks_75 rfl ?_
      refine x_cS1 (As := [.int _]) (ct_X12_mealsOf (by assumption)) vX12_153 rfl rfl ⟨ble rfl, ble rfl⟩ (ble rfl) dX12_cooks_78 rfl ?_
      rw [km]
      refine x_istore_n (L' := [(3, _), (0, _), (1, _), (2, _)]) dX12_cooks_81 rfl (ble rfl) rfl ?_
      first | refine x_aload_n 1 dX12_cooks_82 rfl rfl ?_ | refine x_aload_nN 1 dX12_cooks_82 rfl rfl ?_
      refine x_iload_n 2 dX12_cooks_83 rfl rfl ?_
      refine x_iconst (v := 5) dX12_cooks_84 rfl ?_
      refine x_cV1 (As := [.int _, .int _]) (ct_X12_of_5 ok (by omega)) vX12_101 rfl (x_recv (by with_reducible repeat first | assumption | exact mH_0 ok | exact mH_1 | exact hset_s | refine mH_o (by first | assumption | exact nA ok (by omega) (by omega) (by omega)) (by first | assumption | exact nA ok (by omega) (by omega) (by omega)) ?_ | refine hget_n (by first | assumption | exact Ne.symm (by assumption) | exact nA ok (by omega) (by omega) (by omega)) ?_) rfl) rfl ⟨ble rfl, ble rfl⟩ (ble rfl) dX12_cooks_85 rfl ?_
      rw [hr0]
      refine x_iload_n 3 dX12_cooks_88 rfl rfl ?_
      refine x_iadd dX12_cooks_89 ?_
      rw [nI_add]
      refine x_istore (L' := [(4, _), (3, _), (0, _), (1, _), (2, _)]) dX12_cooks_90 (ble rfl) rfl ?_
      first | refine x_aload_n 2 dX12_cooks_92 rfl rfl ?_ | refine x_aload_nN 2 dX12_cooks_92 rfl rfl ?_
      refine x_iload_n 3 dX12_cooks_93 rfl rfl ?_
      refine x_iconst (v := 3) dX12_cooks_94 rfl ?_
      refine x_cV1 (As := [.int _, .int _]) (ct_X12_of_3 ok (by omega)) vX12_101 rfl (x_recv (by with_reducible repeat first | assumption | exact mH_0 ok | exact mH_1 | exact hset_s | refine mH_o (by first | assumption | exact nA ok (by omega) (by omega) (by omega)) (by first | assumption | exact nA ok (by omega) (by omega) (by omega)) ?_ | refine hget_n (by first | assumption | exact Ne.symm (by assumption) | exact nA ok (by omega) (by omega) (by omega)) ?_) rfl) rfl ⟨ble rfl, ble rfl⟩ (ble rfl) dX12_cooks_95 rfl ?_
      rw [ht]
      refine x_iload 0 dX12_cooks_98 rfl ?_
      refine x_iload_n 1 dX12_cooks_100 rfl rfl ?_
      refine x_idiv dX12_cooks_101 (by first | decide | assumption) ?_
      rw [pk_div (by omega) km0 (by omega)]
      refine x_mmin rfl wX12_156 wMmin2 wMath3 wMmin4 (ble rfl) (ble rfl) dX12_cooks_102 ?_
      rw [mnI (by omega) (Nat.le_trans (Nat.div_le_self _ _) (by omega))]
      refine x_istore (L' := [(5, _), (4, _), (3, _), (0, _), (1, _), (2, _)]) dX12_cooks_105 (ble rfl) rfl ?_
      first | refine x_aload_n 3 dX12_cooks_107 rfl rfl ?_ | refine x_aload_nN 3 dX12_cooks_107 rfl rfl ?_
      refine x_iload_n 4 dX12_cooks_108 rfl rfl ?_
      refine x_iconst (v := 3) dX12_cooks_109 rfl ?_
      first | refine x_aload_n 3 dX12_cooks_110 rfl rfl ?_ | refine x_aload_nN 3 dX12_cooks_110 rfl rfl ?_
      refine x_iload_n 4 dX12_cooks_111 rfl rfl ?_
      refine x_iconst (v := 3) dX12_cooks_112 rfl ?_
      refine x_cV1 (As := [.int _, .int _]) (ct_X12_of_3 ok (by omega)) vX12_101 rfl (x_recv (by with_reducible repeat first | assumption | exact mH_0 ok | exact mH_1 | exact hset_s | refine mH_o (by first | assumption | exact nA ok (by omega) (by omega) (by omega)) (by first | assumption | exact nA ok (by omega) (by omega) (by omega)) ?_ | refine hget_n (by first | assumption | exact Ne.symm (by assumption) | exact nA ok (by omega) (by omega) (by omega)) ?_) rfl) rfl ⟨ble rfl, ble rfl⟩ (ble rfl) dX12_cooks_113 rfl ?_
      rw [ht]
      refine x_iload 0 dX12_cooks_116 rfl ?_
      refine x_isub dX12_cooks_118 ?_
      rw [nI_sub' (Nat.min_le_left _ _)]
      refine x_cV0 (As := [.int _, .int _, .int _]) (ct_X12_becomes_3 ok (by omega) _) vX12_123 rfl (x_recv (by with_reducible repeat first | assumption | exact mH_0 ok | exact mH_1 | exact hset_s | refine mH_o (by first | assumption | exact nA ok (by omega) (by omega) (by omega)) (by first | assumption | exact nA ok (by omega) (by omega) (by omega)) ?_ | refine hget_n (by first | assumption | exact Ne.symm (by assumption) | exact nA ok (by omega) (by omega) (by omega)) ?_) rfl) rfl ⟨ble rfl, ble rfl⟩ (ble rfl) dX12_cooks_119 rfl ?_
      first | refine x_aload_n 3 dX12_cooks_122 rfl rfl ?_ | refine x_aload_nN 3 dX12_cooks_122 rfl rfl ?_
      refine x_iload_n 4 dX12_cooks_123 rfl rfl ?_
      refine x_iconst (v := 5) dX12_cooks_124 rfl ?_
      first | refine x_aload_n 3 dX12_cooks_125 rfl rfl ?_ | refine x_aload_nN 3 dX12_cooks_125 rfl rfl ?_
      refine x_iload_n 4 dX12_cooks_126 rfl rfl ?_
      refine x_iconst (v := 3) dX12_cooks_127 rfl ?_
      refine x_cV1 (As := [.int _, .int _]) (ct_X12_of_3 ok (by omega)) vX12_101 rfl (x_recv (by with_reducible repeat first | assumption | exact mH_0 ok | exact mH_1 | exact hset_s | refine mH_o (by first | assumption | exact nA ok (by omega) (by omega) (by omega)) (by first | assumption | exact nA ok (by omega) (by omega) (by omega)) ?_ | refine hget_n (by first | assumption | exact Ne.symm (by assumption) | exact nA ok (by omega) (by omega) (by omega)) ?_) rfl) rfl ⟨ble rfl, ble rfl⟩ (ble rfl) dX12_cooks_128 rfl ?_
      rw [upd_eq rfl]
      have J142 : ∀ v : Int32, v = (if t - (min t ((r0 + xn) / kMealN (kOf (N (60 + 8 * i))))) = 0 then 0 else nI ((r0 + xn) % kMealN (kOf (N (60 + 8 * i))))) → XX l G mX12_cooks (Rm 6 (0) (0)) (KQ G (Rm 6 (0) (0)) (fun w h' => ∃ r why' wha' beh' its' N', w = some (.int r) ∧ h' = mH G h (eMd G sv rem typ err lin why' wha' beh' its' siz att wro tol) N' ∧ DeedR (pCook N (nI i) (nI xn)) r why' wha' beh' its' N')) (0) (0) 142 [(5, .int (nI (min t ((r0 + xn) / kMealN (kOf (N (60 + 8 * i))))))), (4, .int (nI (r0 + xn))), (3, .int (nI (kMealN (kOf (N (60 + 8 * i)))))), (0, .ref (Ad G 20)), (1, .int (nI i)), (2, .int (nI xn))] [.int v, .int 5, .int (nI i), .ref (Ad G 20)] (mH G h (eMd G sv rem typ err lin (hW (b2i (nI t = 0)) (hW (crackedK (kOf (N (60 + 8 * i))) (N (61 + 8 * i)) (N (62 + 8 * i))) (hW (soldK (N (66 + 8 * i))) 0 4) 5) 9) (hD (b2i (nI t = 0)) (hW (crackedK (kOf (N (60 + 8 * i))) (N (61 + 8 * i)) (N (62 + 8 * i))) (hW (soldK (N (66 + 8 * i))) 0 4) 5) (hD (crackedK (kOf (N (60 + 8 * i))) (N (61 + 8 * i)) (N (62 + 8 * i))) (hW (soldK (N (66 + 8 * i))) 0 4) (hD (soldK (N (66 + 8 * i))) 0 wha (N (66 + 8 * i))) (nI i)) (nI i)) 0 its siz att wro tol) (upd N (63 + 8 * i) (nI (t - (min t ((r0 + xn) / kMealN (kOf (N (60 + 8 * i))))))))) := by
        intro v hv
        subst hv
        refine x_cV0 (As := [.int _, .int _, .int _]) (ct_X12_becomes_5 ok (by omega) _) vX12_123 rfl (x_recv (by with_reducible repeat first | assumption | exact mH_0 ok | exact mH_1 | exact hset_s | refine mH_o (by first | assumption | exact nA ok (by omega) (by omega) (by omega)) (by first | assumption | exact nA ok (by omega) (by omega) (by omega)) ?_ | refine hget_n (by first | assumption | exact Ne.symm (by assumption) | exact nA ok (by omega) (by omega) (by omega)) ?_) rfl) rfl ⟨ble rfl, ble rfl⟩ (ble rfl) dX12_cooks_142 rfl ?_
        first | refine x_aload_n 3 dX12_cooks_145 rfl rfl ?_ | refine x_aload_nN 3 dX12_cooks_145 rfl rfl ?_
        refine x_iload_n 4 dX12_cooks_146 rfl rfl ?_
        refine x_iconst (v := 4) dX12_cooks_147 rfl ?_
        first | refine x_aload_n 3 dX12_cooks_148 rfl rfl ?_ | refine x_aload_nN 3 dX12_cooks_148 rfl rfl ?_
        refine x_iload_n 4 dX12_cooks_149 rfl rfl ?_
        refine x_iconst (v := 4) dX12_cooks_150 rfl ?_
        refine x_cV1 (As := [.int _, .int _]) (ct_X12_of_4 ok (by omega)) vX12_101 rfl (x_recv (by with_reducible repeat first | assumption | exact mH_0 ok | exact mH_1 | exact hset_s | refine mH_o (by first | assumption | exact nA ok (by omega) (by omega) (by omega)) (by first | assumption | exact nA ok (by omega) (by omega) (by omega)) ?_ | refine hget_n (by first | assumption | exact Ne.symm (by assumption) | exact nA ok (by omega) (by omega) (by omega)) ?_) rfl) rfl ⟨ble rfl, ble rfl⟩ (ble rfl) dX12_cooks_151 rfl ?_
        simp (disch := omega) only [upd_ne, upd_eq]
        refine x_iload_n 5 dX12_cooks_154 rfl rfl ?_
        refine x_iadd dX12_cooks_155 ?_
        refine x_cV0 (As := [.int _, .int _, .int _]) (ct_X12_becomes_4 ok (by omega) _) vX12_123 rfl (x_recv (by with_reducible repeat first | assumption | exact mH_0 ok | exact mH_1 | exact hset_s | refine mH_o (by first | assumption | exact nA ok (by omega) (by omega) (by omega)) (by first | assumption | exact nA ok (by omega) (by omega) (by omega)) ?_ | refine hget_n (by first | assumption | exact Ne.symm (by assumption) | exact nA ok (by omega) (by omega) (by omega)) ?_) rfl) rfl ⟨ble rfl, ble rfl⟩ (ble rfl) dX12_cooks_156 rfl ?_
        first | refine x_aload_n 3 dX12_cooks_159 rfl rfl ?_ | refine x_aload_nN 3 dX12_cooks_159 rfl rfl ?_
        refine x_get fX12_9 rfl dX12_cooks_160 (by with_reducible repeat first | assumption | exact mH_0 ok | exact mH_1 | exact hset_s | refine mH_o (by first | assumption | exact nA ok (by omega) (by omega) (by omega)) (by first | assumption | exact nA ok (by omega) (by omega) (by omega)) ?_ | refine hget_n (by first | assumption | exact Ne.symm (by assumption) | exact nA ok (by omega) (by omega) (by omega)) ?_) (by rfl) ?_
        refine x_bipush (v := 6) dX12_cooks_163 rfl ?_
        refine x_dup2 dX12_cooks_165 rfl rfl ?_
        refine x_mald (i := 6) (by first | exact Eq.refl (nI _) | exact ix_p _ _ | exact ix_o _ _ | exact ix_s _ | exact ix_s1 _ _ | (rw [ix_s]; exact nI_add _ _) | exact nI_add _ 1 | exact nI_add _ 2 | exact nI_add _ 3 | exact nI_add _ 4 | (rw [ix_o0]; exact nI_add _ 3) | (rw [ix_o0]; exact nI_add _ 4) | (rw [ix_o0]; exact nI_add _ _)) dX12_cooks_166 (by omega) rfl ?_
        refine x_iload_n 5 dX12_cooks_167 rfl rfl ?_
        refine x_iadd dX12_cooks_168 ?_
        refine x_mast (i := 6) ok (by first | exact Eq.refl (nI _) | exact ix_p _ _ | exact ix_o _ _ | exact ix_s _ | exact ix_s1 _ _ | (rw [ix_s]; exact nI_add _ _) | exact nI_add _ 1 | exact nI_add _ 2 | exact nI_add _ 3 | exact nI_add _ 4 | (rw [ix_o0]; exact nI_add _ 3) | (rw [ix_o0]; exact nI_add _ 4) | (rw [ix_o0]; exact nI_add _ _)) dX12_cooks_169 (by omega) ?_
        first | refine x_aload_n 3 dX12_cooks_170 rfl rfl ?_ | refine x_aload_nN 3 dX12_cooks_170 rfl rfl ?_
        refine x_iload_n 4 dX12_cooks_171 rfl rfl ?_
        refine x_iconst (v := 3) dX12_cooks_172 rfl ?_
        refine x_cV1 (As := [.int _, .int _]) (ct_X12_of_3 ok (by omega)) vX12_101 rfl (x_recv (by with_reducible repeat first | assumption | exact mH_0 ok | exact mH_1 | exact hset_s | refine mH_o (by first | assumption | exact nA ok (by omega) (by omega) (by omega)) (by first | assumption | exact nA ok (by omega) (by omega) (by omega)) ?_ | refine hget_n (by first | assumption | exact Ne.symm (by assumption) | exact nA ok (by omega) (by omega) (by omega)) ?_) rfl) rfl ⟨ble rfl, ble rfl⟩ (ble rfl) dX12_cooks_173 rfl ?_
        refine x_iret rfl dX12_cooks_176 ?_
        refine ⟨_, _, _, _, _, _, rfl, rfl, ?_⟩
        unfold pCook wornK
        rw [if_neg (fun z => z hin), if_neg (fun z => c17 (inI_0.mpr z)), hcl, ht, hr0, kOf_nI (j := t) (by omega), kOf_nI (j := r0) (by omega), kOf_nI (j := xn) hxn]
        have hrem : (if t - (min t ((r0 + xn) / kMealN (kOf (N (60 + 8 * i))))) = 0 then (0 : Int32) else nI ((r0 + xn) % kMealN (kOf (N (60 + 8 * i))))) = (if t - (min t ((r0 + xn) / kMealN (kOf (N (60 + 8 * i))))) = 0 then 0 else nI (r0 + xn - (min t ((r0 + xn) / kMealN (kOf (N (60 + 8 * i))))) * kMealN (kOf (N (60 + 8 * i))))) := ck_rem km0
        rw [hrem]
        simp (disch := omega) only [upd_ne, upd_eq]
        by_cases z0 : soldK (N (66 + 8 * i)) = 0 <;> by_cases z1 : crackedK (kOf (N (60 + 8 * i))) (N (61 + 8 * i)) (N (62 + 8 * i)) = 0 <;> by_cases z2 : nI t = 0 <;> simp only [DeedR, hinK, hW, hD, b2i, hcl, z0, z1, z2, if_true, if_false, not_true_eq_false, not_false_eq_true, false_implies, true_and, and_true] <;> simp
      refine x_if_ne 138 dX12_cooks_131 (by decide) (fun c131 => ?_) (fun c131 => ?_)
      · refine x_iload 1 dX12_cooks_138 rfl ?_
        refine x_iload_n 2 dX12_cooks_140 rfl rfl ?_
        refine x_irem dX12_cooks_141 (by first | decide | assumption) ?_
        rw [pk_rem (by omega) km0 (by omega)]
        refine x_locs (L' := [(5, _), (4, _), (3, _), (0, _), (1, _), (2, _)]) [0, 1, 2, 3, 4, 5] rfl ?_
        refine J142 _ ?_
        first | exact (if_pos (nI_z (m := t - (min t ((r0 + xn) / kMealN (kOf (N (60 + 8 * i)))))) (Nat.lt_of_le_of_lt (Nat.sub_le _ _) (by omega)) c131)).symm | exact (if_neg (fun z => c131 (by rw [z]; rfl))).symm
      · refine x_iconst (v := 0) dX12_cooks_134 rfl ?_
        refine x_goto 142 dX12_cooks_135 (by decide) ?_
        refine x_locs (L' := [(5, _), (4, _), (3, _), (0, _), (1, _), (2, _)]) [0, 1, 2, 3, 4, 5] rfl ?_
        refine J142 _ ?_
        first | exact (if_pos (nI_z (m := t - (min t ((r0 + xn) / kMealN (kOf (N (60 + 8 * i)))))) (Nat.lt_of_le_of_lt (Nat.sub_le _ _) (by omega)) c131)).symm | exact (if_neg (fun z => c131 (by rw [z]; rfl))).symm
    refine x_if_ne 65 dX12_cooks_58 (by decide) (fun c58 => ?_) (fun c58 => ?_)
    · refine x_iconst (v := 0) dX12_cooks_65 rfl ?_
      refine x_locs (L' := [(0, _), (1, _), (2, _)]) [0, 1, 2] rfl ?_
      refine J66 _ ?_
      unfold b2i
      first | exact (if_pos (by first | assumption | (apply Int32.not_le.mp; assumption) | (apply Int32.not_lt.mp; assumption))).symm | exact (if_neg (by first | assumption | (apply Int32.not_lt.mpr; assumption) | (apply Int32.not_le.mpr; assumption))).symm
    · refine x_iconst (v := 1) dX12_cooks_61 rfl ?_
      refine x_goto 66 dX12_cooks_62 (by decide) ?_
      refine x_locs (L' := [(0, _), (1, _), (2, _)]) [0, 1, 2] rfl ?_
      refine J66 _ ?_
      unfold b2i
      first | exact (if_pos (by first | assumption | (apply Int32.not_le.mp; assumption) | (apply Int32.not_lt.mp; assumption))).symm | exact (if_neg (by first | assumption | (apply Int32.not_lt.mpr; assumption) | (apply Int32.not_le.mpr; assumption))).symm
  · refine x_bipush (v := -2) dX12_cooks_20 rfl ?_
    refine x_iret rfl dX12_cooks_22 ?_
    refine ⟨_, _, _, _, _, _, rfl, rfl, ?_⟩
    unfold pCook
    rw [if_neg (fun z => z hin), if_pos (inI_0.mp c17)]
    exact ⟨rfl, rfl, rfl⟩
theorem ct_cook {l : Launch} {G : Gl} {h : Hp} {sv rem typ err lin wha its siz att wro tol : Int32} {N : Nat → Int32} (ok : Ok G) {i np : Nat} (hi : i < np) (hn16 : np ≤ 16) (hnp : N 3 = nI np) (P : PotI N i) (x : Int32) : Ct l G mX12_cooks 6 0 0 [.ref (Ad G 20), .int (nI i), .int x] (mH G h (eMd G sv rem typ err lin 0 wha 0 its siz att wro tol) N) (fun w h' => ∃ r why' wha' beh' its' N', w = some (.int r) ∧ h' = mH G h (eMd G sv rem typ err lin why' wha' beh' its' siz att wro tol) N' ∧ DeedR (pCook N (nI i) x) r why' wha' beh' its' N') := by
  by_cases q : x < 0
  · exact ct_cook_n ok hi hn16 hnp P x q
  · obtain ⟨xn, hxn, rfl⟩ := nI_of q
    exact ct_cook_i ok hi hn16 hnp P hxn
