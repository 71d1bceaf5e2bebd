def DeedR (o : Out) (r why wha beh its : Int32) (N' : Nat → Int32) : Prop := match o with
  | .inl c => r = c ∧ why = 0 ∧ beh = 0
  | .inr (.inl (w, d, b, i)) => why = w ∧ wha = d ∧ beh = b ∧ (¬ b = 0 → its = i)
  | .inr (.inr (v, N2)) => r = v ∧ why = 0 ∧ beh = 0 ∧ N' = N2
theorem ct_isPot_in {l : Launch} {G : Gl} {h : Hp} {sv rem typ err lin why wha beh its siz att wro tol : Int32} {N : Nat → Int32} (ok : Ok G) {np i : Nat} (hnp : N 3 = nI np) (hn : np ≤ 16) (hi : i < np) : CtR l G mX12_isPot 2 [.ref (Ad G 20), .int (nI i)] (mH G h (eMd G sv rem typ err lin why wha beh its siz att wro tol) N) (some (.int 1)) (mH G h (eMd G sv rem typ err lin why wha beh its siz att wro tol) N) :=
  (ct_X12_isPot ok _).cg (by rw [hnp, inI_p (by omega), if_pos ⟨nI_pos' (by omega), nI_lt hi (by omega)⟩]) rfl
theorem ct_isPot_out {l : Launch} {G : Gl} {h : Hp} {sv rem typ err lin why wha beh its siz att wro tol : Int32} {N : Nat → Int32} (ok : Ok G) {np : Nat} {x : Int32} (hnp : N 3 = nI np) (hn : np ≤ 16) (hx : ¬ (0 ≤ x ∧ x < N 3)) : CtR l G mX12_isPot 2 [.ref (Ad G 20), .int x] (mH G h (eMd G sv rem typ err lin why wha beh its siz att wro tol) N) (some (.int 0)) (mH G h (eMd G sv rem typ err lin why wha beh its siz att wro tol) N) :=
  (ct_X12_isPot ok _).cg (by rw [hnp] at hx ⊢; rw [inI_p (by omega), if_neg hx]) rfl
theorem ct_isSheet_in {l : Launch} {G : Gl} {h : Hp} {sv rem typ err lin why wha beh its siz att wro tol : Int32} {N : Nat → Int32} (ok : Ok G) {np i : Nat} (hnp : N 2 = nI np) (hn : np ≤ 16) (hi : i < np) : CtR l G mX12_isSheet 2 [.ref (Ad G 20), .int (nI i)] (mH G h (eMd G sv rem typ err lin why wha beh its siz att wro tol) N) (some (.int 1)) (mH G h (eMd G sv rem typ err lin why wha beh its siz att wro tol) N) :=
  (ct_X12_isSheet ok _).cg (by rw [hnp, inI_p (by omega), if_pos ⟨nI_pos' (by omega), nI_lt hi (by omega)⟩]) rfl
theorem ct_isSheet_out {l : Launch} {G : Gl} {h : Hp} {sv rem typ err lin why wha beh its siz att wro tol : Int32} {N : Nat → Int32} (ok : Ok G) {np : Nat} {x : Int32} (hnp : N 2 = nI np) (hn : np ≤ 16) (hx : ¬ (0 ≤ x ∧ x < N 2)) : CtR l G mX12_isSheet 2 [.ref (Ad G 20), .int x] (mH G h (eMd G sv rem typ err lin why wha beh its siz att wro tol) N) (some (.int 0)) (mH G h (eMd G sv rem typ err lin why wha beh its siz att wro tol) N) :=
  (ct_X12_isSheet ok _).cg (by rw [hnp] at hx ⊢; rw [inI_p (by omega), if_neg hx]) rfl
theorem ct_isOrder_in {l : Launch} {G : Gl} {h : Hp} {sv rem typ err lin why wha beh its siz att wro tol : Int32} {N : Nat → Int32} (ok : Ok G) {np i : Nat} (hnp : N 4 = nI np) (hn : np ≤ 16) (hi : i < np) : CtR l G mX12_isOrder 2 [.ref (Ad G 20), .int (nI i)] (mH G h (eMd G sv rem typ err lin why wha beh its siz att wro tol) N) (some (.int 1)) (mH G h (eMd G sv rem typ err lin why wha beh its siz att wro tol) N) :=
  (ct_X12_isOrder ok _).cg (by rw [hnp, inI_p (by omega), if_pos ⟨nI_pos' (by omega), nI_lt hi (by omega)⟩]) rfl
theorem ct_isOrder_out {l : Launch} {G : Gl} {h : Hp} {sv rem typ err lin why wha beh its siz att wro tol : Int32} {N : Nat → Int32} (ok : Ok G) {np : Nat} {x : Int32} (hnp : N 4 = nI np) (hn : np ≤ 16) (hx : ¬ (0 ≤ x ∧ x < N 4)) : CtR l G mX12_isOrder 2 [.ref (Ad G 20), .int x] (mH G h (eMd G sv rem typ err lin why wha beh its siz att wro tol) N) (some (.int 0)) (mH G h (eMd G sv rem typ err lin why wha beh its siz att wro tol) N) :=
  (ct_X12_isOrder ok _).cg (by rw [hnp] at hx ⊢; rw [inI_p (by omega), if_neg hx]) rfl
theorem mnI {a b : Nat} (ha : a ≤ 1000) (hb : b ≤ 1000) : (if nI b < nI a then nI b else nI a) = nI (min a b) := by
  by_cases q : b < a
  · rw [if_pos (nI_lt q (by omega)), Nat.min_eq_right (by omega)]
  · rw [if_neg (nI_nlt (by omega) (by omega)), Nat.min_eq_left (by omega)]
set_option maxRecDepth 100000 in
set_option maxHeartbeats 4000000 in
theorem ct_X12_spends {l : Launch} {G : Gl} {h : Hp} {sv rem typ err lin why wha beh its siz att wro tol : Int32} {N : Nat → Int32} (ok : Ok G) (x : Int32) : CtR l G mX12_spends 2 [.ref (Ad G 20), .int x] (mH G h (eMd G sv rem typ err lin why wha beh its siz att wro tol) N) (none) (mH G h (eMd G sv rem typ err lin (hW (b2i (N 0 < x)) why 2) (hD (b2i (N 0 < x)) why wha (x - N 0)) beh its siz att wro tol) (upd (upd N 0 (N 0 - x)) 10 (N 10 + x))) := by
  refine Ct.of (L := [(0, _), (1, _)]) (by decide) (ble rfl) rfl ?_
  first | refine x_aload_n 0 dX12_spends_0 rfl rfl ?_ | refine x_aload_nN 0 dX12_spends_0 rfl rfl ?_
  first | refine x_aload_n 0 dX12_spends_1 rfl rfl ?_ | refine x_aload_nN 0 dX12_spends_1 rfl rfl ?_
  refine x_get fX12_9 rfl dX12_spends_2 (by with_reducible repeat first | assumption | exact mH_0 ok | exact mH_1 | exact hset_s | refine mH_o (by first | assumption | exact nA ok (by omega) (by omega) (by omega)) (by first | assumption | exact nA ok (by omega) (by omega) (by omega)) ?_ | refine hget_n (by first | assumption | exact Ne.symm (by assumption) | exact nA ok (by omega) (by omega) (by omega)) ?_) (by rfl) ?_
  refine x_iconst (v := 0) dX12_spends_5 rfl ?_
  refine x_mald (i := 0) (by first | exact Eq.refl (nI _) | exact ix_p _ _ | exact ix_o _ _ | exact ix_s _ | exact ix_s1 _ _ | (rw [ix_s]; exact nI_add _ _) | exact nI_add _ 1 | exact nI_add _ 2 | exact nI_add _ 3 | exact nI_add _ 4 | (rw [ix_o0]; exact nI_add _ 3) | (rw [ix_o0]; exact nI_add _ 4) | (rw [ix_o0]; exact nI_add _ _)) dX12_spends_6 (by omega) rfl ?_
  refine x_iload_n 1 dX12_spends_7 rfl rfl ?_
  have J16 : ∀ v : Int32, v = b2i (N 0 < x) → XX l G mX12_spends (Rm 2 0 0) (KQ G (Rm 2 0 0) (fun w h' => w = none ∧ h' = (mH G h (eMd G sv rem typ err lin (hW (b2i (N 0 < x)) why 2) (hD (b2i (N 0 < x)) why wha (x - N 0)) beh its siz att wro tol) (upd (upd N 0 (N 0 - x)) 10 (N 10 + x))))) 0 0 16 [(0, .ref (Ad G 20)), (1, .int x)] [.int v, .ref (Ad G 20)] (mH G h (eMd G sv rem typ err lin why wha beh its siz att wro tol) N) := by
    intro v hvv
    subst hvv
    refine x_iconst (v := 2) dX12_spends_16 rfl ?_
    refine x_iload_n 1 dX12_spends_17 rfl rfl ?_
    first | refine x_aload_n 0 dX12_spends_18 rfl rfl ?_ | refine x_aload_nN 0 dX12_spends_18 rfl rfl ?_
    refine x_get fX12_9 rfl dX12_spends_19 (by with_reducible repeat first | assumption | exact mH_0 ok | exact mH_1 | exact hset_s | refine mH_o (by first | assumption | exact nA ok (by omega) (by omega) (by omega)) (by first | assumption | exact nA ok (by omega) (by omega) (by omega)) ?_ | refine hget_n (by first | assumption | exact Ne.symm (by assumption) | exact nA ok (by omega) (by omega) (by omega)) ?_) (by rfl) ?_
    refine x_iconst (v := 0) dX12_spends_22 rfl ?_
    refine x_mald (i := 0) (by first | exact Eq.refl (nI _) | exact ix_p _ _ | exact ix_o _ _ | exact ix_s _ | exact ix_s1 _ _ | (rw [ix_s]; exact nI_add _ _) | exact nI_add _ 1 | exact nI_add _ 2 | exact nI_add _ 3 | exact nI_add _ 4 | (rw [ix_o0]; exact nI_add _ 3) | (rw [ix_o0]; exact nI_add _ 4) | (rw [ix_o0]; exact nI_add _ _)) dX12_spends_23 (by omega) rfl ?_
    refine x_isub dX12_spends_24 ?_
    refine x_cV0 (As := [.int _, .int _, .int _]) (ct_X12_hinders ok _ _ _) vX12_82 rfl (x_recv (by with_reducible repeat first | assumption | exact mH_0 ok | exact mH_1 | exact hset_s | refine mH_o (by first | assumption | exact nA ok (by omega) (by omega) (by omega)) (by first | assumption | exact nA ok (by omega) (by omega) (by omega)) ?_ | refine hget_n (by first | assumption | exact Ne.symm (by assumption) | exact nA ok (by omega) (by omega) (by omega)) ?_) rfl) rfl ⟨ble rfl, ble rfl⟩ (ble rfl) dX12_spends_25 rfl ?_
    first | refine x_aload_n 0 dX12_spends_28 rfl rfl ?_ | refine x_aload_nN 0 dX12_spends_28 rfl rfl ?_
    refine x_get fX12_9 rfl dX12_spends_29 (by with_reducible repeat first | assumption | exact mH_0 ok | exact mH_1 | exact hset_s | refine mH_o (by first | assumption | exact nA ok (by omega) (by omega) (by omega)) (by first | assumption | exact nA ok (by omega) (by omega) (by omega)) ?_ | refine hget_n (by first | assumption | exact Ne.symm (by assumption) | exact nA ok (by omega) (by omega) (by omega)) ?_) (by rfl) ?_
    refine x_iconst (v := 0) dX12_spends_32 rfl ?_
    refine x_dup2 dX12_spends_33 rfl rfl ?_
    refine x_mald (i := 0) (by first | exact Eq.refl (nI _) | exact ix_p _ _ | exact ix_o _ _ | exact ix_s _ | exact ix_s1 _ _ | (rw [ix_s]; exact nI_add _ _) | exact nI_add _ 1 | exact nI_add _ 2 | exact nI_add _ 3 | exact nI_add _ 4 | (rw [ix_o0]; exact nI_add _ 3) | (rw [ix_o0]; exact nI_add _ 4) | (rw [ix_o0]; exact nI_add _ _)) dX12_spends_34 (by omega) rfl ?_
    refine x_iload_n 1 dX12_spends_35 rfl rfl ?_
    refine x_isub dX12_spends_36 ?_
    refine x_mast (i := 0) ok (by first | exact Eq.refl (nI _) | exact ix_p _ _ | exact ix_o _ _ | exact ix_s _ | exact ix_s1 _ _ | (rw [ix_s]; exact nI_add _ _) | exact nI_add _ 1 | exact nI_add _ 2 | exact nI_add _ 3 | exact nI_add _ 4 | (rw [ix_o0]; exact nI_add _ 3) | (rw [ix_o0]; exact nI_add _ 4) | (rw [ix_o0]; exact nI_add _ _)) dX12_spends_37 (by omega) ?_
    first | refine x_aload_n 0 dX12_spends_38 rfl rfl ?_ | refine x_aload_nN 0 dX12_spends_38 rfl rfl ?_
    refine x_get fX12_9 rfl dX12_spends_39 (by with_reducible repeat first | assumption | exact mH_0 ok | exact mH_1 | exact hset_s | refine mH_o (by first | assumption | exact nA ok (by omega) (by omega) (by omega)) (by first | assumption | exact nA ok (by omega) (by omega) (by omega)) ?_ | refine hget_n (by first | assumption | exact Ne.symm (by assumption) | exact nA ok (by omega) (by omega) (by omega)) ?_) (by rfl) ?_
    refine x_bipush (v := 10) dX12_spends_42 rfl ?_
    refine x_dup2 dX12_spends_44 rfl rfl ?_
    refine x_mald (i := 10) (by first | exact Eq.refl (nI _) | exact ix_p _ _ | exact ix_o _ _ | exact ix_s _ | exact ix_s1 _ _ | (rw [ix_s]; exact nI_add _ _) | exact nI_add _ 1 | exact nI_add _ 2 | exact nI_add _ 3 | exact nI_add _ 4 | (rw [ix_o0]; exact nI_add _ 3) | (rw [ix_o0]; exact nI_add _ 4) | (rw [ix_o0]; exact nI_add _ _)) dX12_spends_45 (by omega) rfl ?_
    refine x_iload_n 1 dX12_spends_46 rfl rfl ?_
    refine x_iadd dX12_spends_47 ?_
    refine x_mast (i := 10) ok (by first | exact Eq.refl (nI _) | exact ix_p _ _ | exact ix_o _ _ | exact ix_s _ | exact ix_s1 _ _ | (rw [ix_s]; exact nI_add _ _) | exact nI_add _ 1 | exact nI_add _ 2 | exact nI_add _ 3 | exact nI_add _ 4 | (rw [ix_o0]; exact nI_add _ 3) | (rw [ix_o0]; exact nI_add _ 4) | (rw [ix_o0]; exact nI_add _ _)) dX12_spends_48 (by omega) ?_
    refine x_vret rfl dX12_spends_49 ?_
    refine ⟨rfl, ?_⟩
    simp (disch := omega) only [upd_ne, upd_eq]
  refine x_icmp_ge 15 dX12_spends_8 (by decide) (fun c8 => ?_) (fun c8 => ?_)
  · refine x_iconst (v := 0) dX12_spends_15 rfl ?_
    refine x_locs (L' := [(0, _), (1, _)]) [0, 1] rfl ?_
    refine J16 _ ?_
    unfold b2i
    first | exact (if_pos (by first | assumption | (apply Int32.not_le.mp; assumption) | (apply Int32.not_lt.mp; assumption))).symm | exact (if_neg (by first | assumption | (apply Int32.not_lt.mpr; assumption) | (apply Int32.not_le.mpr; assumption))).symm
  · refine x_iconst (v := 1) dX12_spends_11 rfl ?_
    refine x_goto 16 dX12_spends_12 (by decide) ?_
    refine x_locs (L' := [(0, _), (1, _)]) [0, 1] rfl ?_
    refine J16 _ ?_
    unfold b2i
    first | exact (if_pos (by first | assumption | (apply Int32.not_le.mp; assumption) | (apply Int32.not_lt.mp; assumption))).symm | exact (if_neg (by first | assumption | (apply Int32.not_lt.mpr; assumption) | (apply Int32.not_le.mpr; assumption))).symm
set_option maxRecDepth 100000 in
set_option maxHeartbeats 4000000 in
theorem ct_X12_buys {l : Launch} {G : Gl} {h : Hp} {sv rem typ err lin wha its siz att wro tol : Int32} {N : Nat → Int32} (ok : Ok G) (x : Int32) : Ct l G mX12_buys 6 (0) (0) [.ref (Ad G 20), .int x] (mH G h (eMd G sv rem typ err lin 0 wha 0 its siz att wro tol) N) (fun w h' => ∃ r why' wha' beh' its' N', w = some (.int r) ∧ h' = mH G h (eMd G sv rem typ err lin why' wha' beh' its' siz att wro tol) N' ∧ DeedR (pBars N x) r why' wha' beh' its' N') := by
  refine Ct.of (L := [(0, _), (1, _)]) (by decide) (ble rfl) rfl ?_
  refine x_iload_n 1 dX12_buys_0 rfl rfl ?_
  refine x_iconst (v := 1) dX12_buys_1 rfl ?_
  refine x_bipush (v := 50) dX12_buys_2 rfl ?_
  refine x_cS1 (As := [.int _, .int _, .int _]) (ct_X12_isIn _ _ _) vX12_74 rfl rfl ⟨ble rfl, ble rfl⟩ (ble rfl) dX12_buys_4 rfl ?_
  refine x_if_ne 13 dX12_buys_7 (by decide) (fun c7 => ?_) (fun c7 => ?_)
  · first | refine x_aload_n 0 dX12_buys_13 rfl rfl ?_ | refine x_aload_nN 0 dX12_buys_13 rfl rfl ?_
    refine x_iload_n 1 dX12_buys_14 rfl rfl ?_
    refine x_cV0 (As := [.int _]) (ct_X12_spends ok _) vX12_89 rfl (x_recv (by with_reducible repeat first | assumption | exact mH_0 ok | exact mH_1 | exact hset_s | refine mH_o (by first | assumption | exact nA ok (by omega) (by omega) (by omega)) (by first | assumption | exact nA ok (by omega) (by omega) (by omega)) ?_ | refine hget_n (by first | assumption | exact Ne.symm (by assumption) | exact nA ok (by omega) (by omega) (by omega)) ?_) rfl) rfl ⟨ble rfl, ble rfl⟩ (ble rfl) dX12_buys_15 rfl ?_
    first | refine x_aload_n 0 dX12_buys_18 rfl rfl ?_ | refine x_aload_nN 0 dX12_buys_18 rfl rfl ?_
    refine x_get fX12_9 rfl dX12_buys_19 (by with_reducible repeat first | assumption | exact mH_0 ok | exact mH_1 | exact hset_s | refine mH_o (by first | assumption | exact nA ok (by omega) (by omega) (by omega)) (by first | assumption | exact nA ok (by omega) (by omega) (by omega)) ?_ | refine hget_n (by first | assumption | exact Ne.symm (by assumption) | exact nA ok (by omega) (by omega) (by omega)) ?_) (by rfl) ?_
    refine x_iconst (v := 1) dX12_buys_22 rfl ?_
    refine x_dup2 dX12_buys_23 rfl rfl ?_
    refine x_mald (i := 1) (by first | exact Eq.refl (nI _) | exact ix_p _ _ | exact ix_o _ _ | exact ix_s _ | exact ix_s1 _ _ | (rw [ix_s]; exact nI_add _ _) | exact nI_add _ 1 | exact nI_add _ 2 | exact nI_add _ 3 | exact nI_add _ 4 | (rw [ix_o0]; exact nI_add _ 3) | (rw [ix_o0]; exact nI_add _ 4) | (rw [ix_o0]; exact nI_add _ _)) dX12_buys_24 (by omega) rfl ?_
    refine x_iload_n 1 dX12_buys_25 rfl rfl ?_
    refine x_iadd dX12_buys_26 ?_
    refine x_mast (i := 1) ok (by first | exact Eq.refl (nI _) | exact ix_p _ _ | exact ix_o _ _ | exact ix_s _ | exact ix_s1 _ _ | (rw [ix_s]; exact nI_add _ _) | exact nI_add _ 1 | exact nI_add _ 2 | exact nI_add _ 3 | exact nI_add _ 4 | (rw [ix_o0]; exact nI_add _ 3) | (rw [ix_o0]; exact nI_add _ 4) | (rw [ix_o0]; exact nI_add _ _)) dX12_buys_27 (by omega) ?_
    first | refine x_aload_n 0 dX12_buys_28 rfl rfl ?_ | refine x_aload_nN 0 dX12_buys_28 rfl rfl ?_
    refine x_get fX12_9 rfl dX12_buys_29 (by with_reducible repeat first | assumption | exact mH_0 ok | exact mH_1 | exact hset_s | refine mH_o (by first | assumption | exact nA ok (by omega) (by omega) (by omega)) (by first | assumption | exact nA ok (by omega) (by omega) (by omega)) ?_ | refine hget_n (by first | assumption | exact Ne.symm (by assumption) | exact nA ok (by omega) (by omega) (by omega)) ?_) (by rfl) ?_
    refine x_bipush (v := 11) dX12_buys_32 rfl ?_
    refine x_dup2 dX12_buys_34 rfl rfl ?_
    refine x_mald (i := 11) (by first | exact Eq.refl (nI _) | exact ix_p _ _ | exact ix_o _ _ | exact ix_s _ | exact ix_s1 _ _ | (rw [ix_s]; exact nI_add _ _) | exact nI_add _ 1 | exact nI_add _ 2 | exact nI_add _ 3 | exact nI_add _ 4 | (rw [ix_o0]; exact nI_add _ 3) | (rw [ix_o0]; exact nI_add _ 4) | (rw [ix_o0]; exact nI_add _ _)) dX12_buys_35 (by omega) rfl ?_
    refine x_iload_n 1 dX12_buys_36 rfl rfl ?_
    refine x_iadd dX12_buys_37 ?_
    refine x_mast (i := 11) ok (by first | exact Eq.refl (nI _) | exact ix_p _ _ | exact ix_o _ _ | exact ix_s _ | exact ix_s1 _ _ | (rw [ix_s]; exact nI_add _ _) | exact nI_add _ 1 | exact nI_add _ 2 | exact nI_add _ 3 | exact nI_add _ 4 | (rw [ix_o0]; exact nI_add _ 3) | (rw [ix_o0]; exact nI_add _ 4) | (rw [ix_o0]; exact nI_add _ _)) dX12_buys_38 (by omega) ?_
    first | refine x_aload_n 0 dX12_buys_39 rfl rfl ?_ | refine x_aload_nN 0 dX12_buys_39 rfl rfl ?_
    refine x_get fX12_9 rfl dX12_buys_40 (by with_reducible repeat first | assumption | exact mH_0 ok | exact mH_1 | exact hset_s | refine mH_o (by first | assumption | exact nA ok (by omega) (by omega) (by omega)) (by first | assumption | exact nA ok (by omega) (by omega) (by omega)) ?_ | refine hget_n (by first | assumption | exact Ne.symm (by assumption) | exact nA ok (by omega) (by omega) (by omega)) ?_) (by rfl) ?_
    refine x_iconst (v := 1) dX12_buys_43 rfl ?_
    refine x_mald (i := 1) (by first | exact Eq.refl (nI _) | exact ix_p _ _ | exact ix_o _ _ | exact ix_s _ | exact ix_s1 _ _ | (rw [ix_s]; exact nI_add _ _) | exact nI_add _ 1 | exact nI_add _ 2 | exact nI_add _ 3 | exact nI_add _ 4 | (rw [ix_o0]; exact nI_add _ 3) | (rw [ix_o0]; exact nI_add _ 4) | (rw [ix_o0]; exact nI_add _ _)) dX12_buys_44 (by omega) rfl ?_
    refine x_iret rfl dX12_buys_45 ?_
    refine ⟨_, _, _, _, _, _, rfl, rfl, ?_⟩
    unfold pBars
    rw [if_neg (fun z => c7 (inI_0.mpr z))]
    by_cases z0 : N 0 < x <;> simp [DeedR, hinK, hW, hD, b2i, z0, upd_ne, upd_eq]
  · refine x_bipush (v := -2) dX12_buys_10 rfl ?_
    refine x_iret rfl dX12_buys_12 ?_
    refine ⟨_, _, _, _, _, _, rfl, rfl, ?_⟩
    unfold pBars
    rw [if_pos (inI_0.mp c7)]
    exact ⟨rfl, rfl, rfl⟩
set_option maxRecDepth 100000 in
set_option maxHeartbeats 4000000 in
theorem ct_plan_o {l : Launch} {G : Gl} {h : Hp} {sv rem typ err lin wha its siz att wro tol : Int32} {N : Nat → Int32} (ok : Ok G) {np : Nat} (hn16 : np ≤ 16) (hnp : N 3 = nI np) (x y : Int32) (hx : ¬ (0 ≤ x ∧ x < N 3)) : Ct l G mX12_planishes 6 (0) (0) [.ref (Ad G 20), .int x, .int y] (mH G h (eMd G sv rem typ err lin 0 wha 0 its siz att wro tol) N) (fun w h' => ∃ r why' wha' beh' its' N', w = some (.int r) ∧ h' = mH G h (eMd G sv rem typ err lin why' wha' beh' its' siz att wro tol) N' ∧ DeedR (pHit N x y) r why' wha' beh' its' N') := by
  refine Ct.of (L := [(0, _), (1, _), (2, _)]) (by decide) (ble rfl) rfl ?_
  first | refine x_aload_n 0 dX12_planishes_0 rfl rfl ?_ | refine x_aload_nN 0 dX12_planishes_0 rfl rfl ?_
  refine x_iload_n 1 dX12_planishes_1 rfl rfl ?_
  refine x_cV1 (As := [.int _]) (ct_isPot_out ok hnp hn16 hx) vX12_129 rfl (x_recv (by with_reducible repeat first | assumption | exact mH_0 ok | exact mH_1 | exact hset_s | refine mH_o (by first | assumption | exact nA ok (by omega) (by omega) (by omega)) (by first | assumption | exact nA ok (by omega) (by omega) (by omega)) ?_ | refine hget_n (by first | assumption | exact Ne.symm (by assumption) | exact nA ok (by omega) (by omega) (by omega)) ?_) rfl) rfl ⟨ble rfl, ble rfl⟩ (ble rfl) dX12_planishes_2 rfl ?_
  refine x_if_ne 10 dX12_planishes_5 (by decide) (fun z => by first | exact absurd z (fun z => z rfl) | exact absurd (fun z => z rfl) z) (fun _ => ?_)
  refine x_iconst (v := -1) dX12_planishes_8 rfl ?_
  refine x_iret rfl dX12_planishes_9 ?_
  refine ⟨_, _, _, _, _, _, rfl, rfl, ?_⟩
  unfold pHit
  rw [if_pos hx]
  exact ⟨rfl, rfl, rfl⟩
set_option maxRecDepth 100000 in
set_option maxHeartbeats 4000000 in
theorem ct_plan_i {l : Launch} {G : Gl} {h : Hp} {sv rem typ err lin wha its siz att wro tol : Int32} {N : Nat → Int32} (ok : Ok G) {i np : Nat} (hi : i < np) (hn16 : np ≤ 16) (hnp : N 3 = nI np) (P : PotI N i) (x : Int32) : Ct l G mX12_planishes 6 (0) (0) [.ref (Ad G 20), .int (nI i), .int x] (mH G h (eMd G sv rem typ err lin 0 wha 0 its siz att wro tol) N) (fun w h' => ∃ r why' wha' beh' its' N', w = some (.int r) ∧ h' = mH G h (eMd G sv rem typ err lin why' wha' beh' its' siz att wro tol) N' ∧ DeedR (pHit N (nI i) x) r why' wha' beh' its' N') := by
  obtain ⟨hK, ⟨g, hg, hg1, hg9⟩, ⟨b, hb, hb2⟩, ⟨t, ht, ht9⟩, -⟩ := id P
  have hcl := kOf_nI (j := i) (by omega)
  have hin : 0 ≤ nI i ∧ nI i < N 3 := ⟨nI_pos' (by omega), by rw [hnp]; exact nI_lt hi (by omega)⟩
  have hi16 : i < 16 := by omega
  refine Ct.of (L := [(0, _), (1, _), (2, _)]) (by decide) (ble rfl) rfl ?_
  first | refine x_aload_n 0 dX12_planishes_0 rfl rfl ?_ | refine x_aload_nN 0 dX12_planishes_0 rfl rfl ?_
  refine x_iload_n 1 dX12_planishes_1 rfl rfl ?_
  refine x_cV1 (As := [.int _]) (ct_isPot_in ok hnp hn16 hi) vX12_129 rfl (x_recv (by with_reducible repeat first | assumption | exact mH_0 ok | exact mH_1 | exact hset_s | refine mH_o (by first | assumption | exact nA ok (by omega) (by omega) (by omega)) (by first | assumption | exact nA ok (by omega) (by omega) (by omega)) ?_ | refine hget_n (by first | assumption | exact Ne.symm (by assumption) | exact nA ok (by omega) (by omega) (by omega)) ?_) rfl) rfl ⟨ble rfl, ble rfl⟩ (ble rfl) dX12_planishes_2 rfl ?_
  refine x_if_ne 10 dX12_planishes_5 (by decide) (fun _ => ?_) (fun z => by first | exact absurd (show ¬ (1 : Int32) = 0 by decide) z | exact absurd z (show ¬ (1 : Int32) = 0 by decide))
  refine x_iload_n 2 dX12_planishes_10 rfl rfl ?_
  refine x_iconst (v := 1) dX12_planishes_11 rfl ?_
  refine x_bipush (v := 99) dX12_planishes_12 rfl ?_
  refine x_cS1 (As := [.int _, .int _, .int _]) (ct_X12_isIn _ _ _) vX12_74 rfl rfl ⟨ble rfl, ble rfl⟩ (ble rfl) dX12_planishes_14 rfl ?_
  refine x_if_ne 23 dX12_planishes_17 (by decide) (fun c17 => ?_) (fun c17 => ?_)
  · first | refine x_aload_n 0 dX12_planishes_23 rfl rfl ?_ | refine x_aload_nN 0 dX12_planishes_23 rfl rfl ?_
    first | refine x_aload_n 0 dX12_planishes_24 rfl rfl ?_ | refine x_aload_nN 0 dX12_planishes_24 rfl rfl ?_
    refine x_iload_n 1 dX12_planishes_25 rfl rfl ?_
    refine x_cV1 (As := [.int _]) (ct_X12_isSold ok (by omega)) vX12_132 rfl (x_recv (by with_reducible repeat first | assumption | exact mH_0 ok | exact mH_1 | exact hset_s | refine mH_o (by first | assumption | exact nA ok (by omega) (by omega) (by omega)) (by first | assumption | exact nA ok (by omega) (by omega) (by omega)) ?_ | refine hget_n (by first | assumption | exact Ne.symm (by assumption) | exact nA ok (by omega) (by omega) (by omega)) ?_) rfl) rfl ⟨ble rfl, ble rfl⟩ (ble rfl) dX12_planishes_26 rfl ?_
    refine x_iconst (v := 4) dX12_planishes_29 rfl ?_
    first | refine x_aload_n 0 dX12_planishes_30 rfl rfl ?_ | refine x_aload_nN 0 dX12_planishes_30 rfl rfl ?_
    refine x_iload_n 1 dX12_planishes_31 rfl rfl ?_
    refine x_bipush (v := 6) dX12_planishes_32 rfl ?_
    refine x_cV1 (As := [.int _, .int _]) (ct_X12_of_6 ok (by omega)) vX12_101 rfl (x_recv (by with_reducible repeat first | assumption | exact mH_0 ok | exact mH_1 | exact hset_s | refine mH_o (by first | assumption | exact nA ok (by omega) (by omega) (by omega)) (by first | assumption | exact nA ok (by omega) (by omega) (by omega)) ?_ | refine hget_n (by first | assumption | exact Ne.symm (by assumption) | exact nA ok (by omega) (by omega) (by omega)) ?_) rfl) rfl ⟨ble rfl, ble rfl⟩ (ble rfl) dX12_planishes_34 rfl ?_
    refine x_cV0 (As := [.int _, .int _, .int _]) (ct_X12_hinders ok _ _ _) vX12_82 rfl (x_recv (by with_reducible repeat first | assumption | exact mH_0 ok | exact mH_1 | exact hset_s | refine mH_o (by first | assumption | exact nA ok (by omega) (by omega) (by omega)) (by first | assumption | exact nA ok (by omega) (by omega) (by omega)) ?_ | refine hget_n (by first | assumption | exact Ne.symm (by assumption) | exact nA ok (by omega) (by omega) (by omega)) ?_) rfl) rfl ⟨ble rfl, ble rfl⟩ (ble rfl) dX12_planishes_37 rfl ?_
    first | refine x_aload_n 0 dX12_planishes_40 rfl rfl ?_ | refine x_aload_nN 0 dX12_planishes_40 rfl rfl ?_
    first | refine x_aload_n 0 dX12_planishes_41 rfl rfl ?_ | refine x_aload_nN 0 dX12_planishes_41 rfl rfl ?_
    refine x_iload_n 1 dX12_planishes_42 rfl rfl ?_
    refine x_cV1 (As := [.int _]) (ct_X12_isCracked ok (by omega) (by assumption)) vX12_135 rfl (x_recv (by with_reducible repeat first | assumption | exact mH_0 ok | exact mH_1 | exact hset_s | refine mH_o (by first | assumption | exact nA ok (by omega) (by omega) (by omega)) (by first | assumption | exact nA ok (by omega) (by omega) (by omega)) ?_ | refine hget_n (by first | assumption | exact Ne.symm (by assumption) | exact nA ok (by omega) (by omega) (by omega)) ?_) rfl) rfl ⟨ble rfl, ble rfl⟩ (ble rfl) dX12_planishes_43 rfl ?_
    refine x_iconst (v := 5) dX12_planishes_46 rfl ?_
    refine x_iload_n 1 dX12_planishes_47 rfl rfl ?_
    refine x_cV0 (As := [.int _, .int _, .int _]) (ct_X12_hinders ok _ _ _) vX12_82 rfl (x_recv (by with_reducible repeat first | assumption | exact mH_0 ok | exact mH_1 | exact hset_s | refine mH_o (by first | assumption | exact nA ok (by omega) (by omega) (by omega)) (by first | assumption | exact nA ok (by omega) (by omega) (by omega)) ?_ | refine hget_n (by first | assumption | exact Ne.symm (by assumption) | exact nA ok (by omega) (by omega) (by omega)) ?_) rfl) rfl ⟨ble rfl, ble rfl⟩ (ble rfl) dX12_planishes_48 rfl ?_
    first | refine x_aload_n 0 dX12_planishes_51 rfl rfl ?_ | refine x_aload_nN 0 dX12_planishes_51 rfl rfl ?_
    refine x_iload_n 1 dX12_planishes_52 rfl rfl ?_
    refine x_iconst (v := 2) dX12_planishes_53 rfl ?_
    first | refine x_aload_n 0 dX12_planishes_54 rfl rfl ?_ | refine x_aload_nN 0 dX12_planishes_54 rfl rfl ?_
    refine x_iload_n 1 dX12_planishes_55 rfl rfl ?_
    refine x_iconst (v := 2) dX12_planishes_56 rfl ?_
    refine x_cV1 (As := [.int _, .int _]) (ct_X12_of_2 ok (by omega)) vX12_101 rfl (x_recv (by with_reducible repeat first | assumption | exact mH_0 ok | exact mH_1 | exact hset_s | refine mH_o (by first | assumption | exact nA ok (by omega) (by omega) (by omega)) (by first | assumption | exact nA ok (by omega) (by omega) (by omega)) ?_ | refine hget_n (by first | assumption | exact Ne.symm (by assumption) | exact nA ok (by omega) (by omega) (by omega)) ?_) rfl) rfl ⟨ble rfl, ble rfl⟩ (ble rfl) dX12_planishes_57 rfl ?_
    refine x_iload_n 2 dX12_planishes_60 rfl rfl ?_
    refine x_iadd dX12_planishes_61 ?_
    refine x_cV0 (As := [.int _, .int _, .int _]) (ct_X12_becomes_2 ok (by omega) _) vX12_123 rfl (x_recv (by with_reducible repeat first | assumption | exact mH_0 ok | exact mH_1 | exact hset_s | refine mH_o (by first | assumption | exact nA ok (by omega) (by omega) (by omega)) (by first | assumption | exact nA ok (by omega) (by omega) (by omega)) ?_ | refine hget_n (by first | assumption | exact Ne.symm (by assumption) | exact nA ok (by omega) (by omega) (by omega)) ?_) rfl) rfl ⟨ble rfl, ble rfl⟩ (ble rfl) dX12_planishes_62 rfl ?_
    first | refine x_aload_n 0 dX12_planishes_65 rfl rfl ?_ | refine x_aload_nN 0 dX12_planishes_65 rfl rfl ?_
    refine x_get fX12_9 rfl dX12_planishes_66 (by with_reducible repeat first | assumption | exact mH_0 ok | exact mH_1 | exact hset_s | refine mH_o (by first | assumption | exact nA ok (by omega) (by omega) (by omega)) (by first | assumption | exact nA ok (by omega) (by omega) (by omega)) ?_ | refine hget_n (by first | assumption | exact Ne.symm (by assumption) | exact nA ok (by omega) (by omega) (by omega)) ?_) (by rfl) ?_
    refine x_iconst (v := 5) dX12_planishes_69 rfl ?_
    refine x_dup2 dX12_planishes_70 rfl rfl ?_
    refine x_mald (i := 5) (by first | exact Eq.refl (nI _) | exact ix_p _ _ | exact ix_o _ _ | exact ix_s _ | exact ix_s1 _ _ | (rw [ix_s]; exact nI_add _ _) | exact nI_add _ 1 | exact nI_add _ 2 | exact nI_add _ 3 | exact nI_add _ 4 | (rw [ix_o0]; exact nI_add _ 3) | (rw [ix_o0]; exact nI_add _ 4) | (rw [ix_o0]; exact nI_add _ _)) dX12_planishes_71 (by omega) rfl ?_
    refine x_iload_n 2 dX12_planishes_72 rfl rfl ?_
    refine x_iadd dX12_planishes_73 ?_
    refine x_mast (i := 5) ok (by first | exact Eq.refl (nI _) | exact ix_p _ _ | exact ix_o _ _ | exact ix_s _ | exact ix_s1 _ _ | (rw [ix_s]; exact nI_add _ _) | exact nI_add _ 1 | exact nI_add _ 2 | exact nI_add _ 3 | exact nI_add _ 4 | (rw [ix_o0]; exact nI_add _ 3) | (rw [ix_o0]; exact nI_add _ 4) | (rw [ix_o0]; exact nI_add _ _)) dX12_planishes_74 (by omega) ?_
    first | refine x_aload_n 0 dX12_planishes_75 rfl rfl ?_ | refine x_aload_nN 0 dX12_planishes_75 rfl rfl ?_
    refine x_iload_n 1 dX12_planishes_76 rfl rfl ?_
    refine x_cV1 (As := [.int _]) (ct_X12_thickness ok (by omega) (by rw [upd_ne (by omega), upd_ne (by omega)]; exact hK)) vX12_117 rfl (x_recv (by with_reducible repeat first | assumption | exact mH_0 ok | exact mH_1 | exact hset_s | refine mH_o (by first | assumption | exact nA ok (by omega) (by omega) (by omega)) (by first | assumption | exact nA ok (by omega) (by omega) (by omega)) ?_ | refine hget_n (by first | assumption | exact Ne.symm (by assumption) | exact nA ok (by omega) (by omega) (by omega)) ?_) rfl) rfl ⟨ble rfl, ble rfl⟩ (ble rfl) dX12_planishes_77 rfl ?_
    refine x_iret rfl dX12_planishes_80 ?_
    refine ⟨_, _, _, _, _, _, rfl, rfl, ?_⟩
    simp (disch := omega) only [upd_ne, upd_eq]
    unfold pHit
    rw [if_neg (fun z => z hin), if_neg (fun z => c17 (inI_0.mpr z))]
    by_cases z0 : soldK (N (66 + 8 * i)) = 0 <;> by_cases z1 : crackedK (kOf (N (60 + 8 * i))) (N (61 + 8 * i)) (N (62 + 8 * i)) = 0 <;> simp [DeedR, hinK, hW, hD, b2i, hcl, z0, z1]
  · refine x_bipush (v := -2) dX12_planishes_20 rfl ?_
    refine x_iret rfl dX12_planishes_22 ?_
    refine ⟨_, _, _, _, _, _, rfl, rfl, ?_⟩
    unfold pHit
    rw [if_neg (fun z => z hin), if_pos (inI_0.mp c17)]
    exact ⟨rfl, rfl, rfl⟩
set_option maxRecDepth 100000 in
set_option maxHeartbeats 4000000 in
theorem ct_tins_o {l : Launch} {G : Gl} {h : Hp} {sv rem typ err lin wha its siz att wro tol : Int32} {N : Nat → Int32} (ok : Ok G) {np : Nat} (hn16 : np ≤ 16) (hnp : N 3 = nI np) (x y : Int32) (hx : ¬ (0 ≤ x ∧ x < N 3)) : Ct l G mX12_tins 6 (0) (0) [.ref (Ad G 20), .int x, .int y] (mH G h (eMd G sv rem typ err lin 0 wha 0 its siz att wro tol) N) (fun w h' => ∃ r why' wha' beh' its' N', w = some (.int r) ∧ h' = mH G h (eMd G sv rem typ err lin why' wha' beh' its' siz att wro tol) N' ∧ DeedR (pTin N x y) r why' wha' beh' its' N') := by
  refine Ct.of (L := [(0, _), (1, _), (2, _)]) (by decide) (ble rfl) rfl ?_
  first | refine x_aload_n 0 dX12_tins_0 rfl rfl ?_ | refine x_aload_nN 0 dX12_tins_0 rfl rfl ?_
  refine x_iload_n 1 dX12_tins_1 rfl rfl ?_
  refine x_cV1 (As := [.int _]) (ct_isPot_out ok hnp hn16 hx) vX12_129 rfl (x_recv (by with_reducible repeat first | assumption | exact mH_0 ok | exact mH_1 | exact hset_s | refine mH_o (by first | assumption | exact nA ok (by omega) (by omega) (by omega)) (by first | assumption | exact nA ok (by omega) (by omega) (by omega)) ?_ | refine hget_n (by first | assumption | exact Ne.symm (by assumption) | exact nA ok (by omega) (by omega) (by omega)) ?_) rfl) rfl ⟨ble rfl, ble rfl⟩ (ble rfl) dX12_tins_2 rfl ?_
  refine x_if_ne 10 dX12_tins_5 (by decide) (fun z => by first | exact absurd z (fun z => z rfl) | exact absurd (fun z => z rfl) z) (fun _ => ?_)
  refine x_iconst (v := -1) dX12_tins_8 rfl ?_
  refine x_iret rfl dX12_tins_9 ?_
  refine ⟨_, _, _, _, _, _, rfl, rfl, ?_⟩
  unfold pTin
  rw [if_pos hx]
  exact ⟨rfl, rfl, rfl⟩
set_option maxRecDepth 100000 in
set_option maxHeartbeats 4000000 in
theorem ct_tins_i {l : Launch} {G : Gl} {h : Hp} {sv rem typ err lin wha its siz att wro tol : Int32} {N : Nat → Int32} (ok : Ok G) {i np : Nat} (hi : i < np) (hn16 : np ≤ 16) (hnp : N 3 = nI np) (P : PotI N i) (x : Int32) : Ct l G mX12_tins 6 (0) (0) [.ref (Ad G 20), .int (nI i), .int x] (mH G h (eMd G sv rem typ err lin 0 wha 0 its siz att wro tol) N) (fun w h' => ∃ r why' wha' beh' its' N', w = some (.int r) ∧ h' = mH G h (eMd G sv rem typ err lin why' wha' beh' its' siz att wro tol) N' ∧ DeedR (pTin N (nI i) x) r why' wha' beh' its' N') := by
  obtain ⟨hK, ⟨g, hg, hg1, hg9⟩, ⟨b, hb, hb2⟩, ⟨t, ht, ht9⟩, -⟩ := id P
  have hcl := kOf_nI (j := i) (by omega)
  have hin : 0 ≤ nI i ∧ nI i < N 3 := ⟨nI_pos' (by omega), by rw [hnp]; exact nI_lt hi (by omega)⟩
  have hi16 : i < 16 := by omega
  have hq := mis_e _ hK.2 b (by omega)
  rw [← hb] at hq
  have hq3 : (0 < mx (kSm (kOf (N (60 + 8 * i))) - N (62 + 8 * i)) 0) ↔ N (62 + 8 * i) < kSm (kOf (N (60 + 8 * i))) := ⟨fun z => Classical.not_not.mp (fun y => absurd (hq.mpr y) (Int32.not_le.mpr z)), fun z => Int32.not_le.mp (fun y => hq.mp y z)⟩
  refine Ct.of (L := [(0, _), (1, _), (2, _)]) (by decide) (ble rfl) rfl ?_
  first | refine x_aload_n 0 dX12_tins_0 rfl rfl ?_ | refine x_aload_nN 0 dX12_tins_0 rfl rfl ?_
  refine x_iload_n 1 dX12_tins_1 rfl rfl ?_
  refine x_cV1 (As := [.int _]) (ct_isPot_in ok hnp hn16 hi) vX12_129 rfl (x_recv (by with_reducible repeat first | assumption | exact mH_0 ok | exact mH_1 | exact hset_s | refine mH_o (by first | assumption | exact nA ok (by omega) (by omega) (by omega)) (by first | assumption | exact nA ok (by omega) (by omega) (by omega)) ?_ | refine hget_n (by first | assumption | exact Ne.symm (by assumption) | exact nA ok (by omega) (by omega) (by omega)) ?_) rfl) rfl ⟨ble rfl, ble rfl⟩ (ble rfl) dX12_tins_2 rfl ?_
  refine x_if_ne 10 dX12_tins_5 (by decide) (fun _ => ?_) (fun z => by first | exact absurd (show ¬ (1 : Int32) = 0 by decide) z | exact absurd z (show ¬ (1 : Int32) = 0 by decide))
  refine x_iload_n 2 dX12_tins_10 rfl rfl ?_
  refine x_iconst (v := 1) dX12_tins_11 rfl ?_
  refine x_bipush (v := 9) dX12_tins_12 rfl ?_
  refine x_cS1 (As := [.int _, .int _, .int _]) (ct_X12_isIn _ _ _) vX12_74 rfl rfl ⟨ble rfl, ble rfl⟩ (ble rfl) dX12_tins_14 rfl ?_
  refine x_if_ne 23 dX12_tins_17 (by decide) (fun c17 => ?_) (fun c17 => ?_)
  · first | refine x_aload_n 0 dX12_tins_23 rfl rfl ?_ | refine x_aload_nN 0 dX12_tins_23 rfl rfl ?_
    refine x_iload_n 1 dX12_tins_24 rfl rfl ?_
    refine x_iconst (v := 0) dX12_tins_25 rfl ?_
    refine x_cV1 (As := [.int _, .int _]) (ct_X12_of_0 ok (by omega)) vX12_101 rfl (x_recv (by with_reducible repeat first | assumption | exact mH_0 ok | exact mH_1 | exact hset_s | refine mH_o (by first | assumption | exact nA ok (by omega) (by omega) (by omega)) (by first | assumption | exact nA ok (by omega) (by omega) (by omega)) ?_ | refine hget_n (by first | assumption | exact Ne.symm (by assumption) | exact nA ok (by omega) (by omega) (by omega)) ?_) rfl) rfl ⟨ble rfl, ble rfl⟩ (ble rfl) dX12_tins_26 rfl ?_
    refine x_iload_n 2 dX12_tins_29 rfl rfl ?_
    refine x_cS1 (As := [.int _, .int _]) (ct_X12_barsBy (by assumption) _) vX12_144 rfl rfl ⟨ble rfl, ble rfl⟩ (ble rfl) dX12_tins_30 rfl ?_
    refine x_istore_n (L' := [(3, _), (0, _), (1, _), (2, _)]) dX12_tins_33 rfl (ble rfl) rfl ?_
    first | refine x_aload_n 1 dX12_tins_34 rfl rfl ?_ | refine x_aload_nN 1 dX12_tins_34 rfl rfl ?_
    refine x_iload_n 2 dX12_tins_35 rfl rfl ?_
    refine x_iconst (v := 3) dX12_tins_36 rfl ?_
    refine x_cV1 (As := [.int _, .int _]) (ct_X12_of_3 ok (by omega)) vX12_101 rfl (x_recv (by with_reducible repeat first | assumption | exact mH_0 ok | exact mH_1 | exact hset_s | refine mH_o (by first | assumption | exact nA ok (by omega) (by omega) (by omega)) (by first | assumption | exact nA ok (by omega) (by omega) (by omega)) ?_ | refine hget_n (by first | assumption | exact Ne.symm (by assumption) | exact nA ok (by omega) (by omega) (by omega)) ?_) rfl) rfl ⟨ble rfl, ble rfl⟩ (ble rfl) dX12_tins_37 rfl ?_
    refine x_iload_n 3 dX12_tins_40 rfl rfl ?_
    refine x_iadd dX12_tins_41 ?_
    refine x_istore (L' := [(4, _), (3, _), (0, _), (1, _), (2, _)]) dX12_tins_42 (ble rfl) rfl ?_
    first | refine x_aload_n 2 dX12_tins_44 rfl rfl ?_ | refine x_aload_nN 2 dX12_tins_44 rfl rfl ?_
    first | refine x_aload_n 2 dX12_tins_45 rfl rfl ?_ | refine x_aload_nN 2 dX12_tins_45 rfl rfl ?_
    refine x_iload_n 3 dX12_tins_46 rfl rfl ?_
    refine x_cV1 (As := [.int _]) (ct_X12_isSold ok (by omega)) vX12_132 rfl (x_recv (by with_reducible repeat first | assumption | exact mH_0 ok | exact mH_1 | exact hset_s | refine mH_o (by first | assumption | exact nA ok (by omega) (by omega) (by omega)) (by first | assumption | exact nA ok (by omega) (by omega) (by omega)) ?_ | refine hget_n (by first | assumption | exact Ne.symm (by assumption) | exact nA ok (by omega) (by omega) (by omega)) ?_) rfl) rfl ⟨ble rfl, ble rfl⟩ (ble rfl) dX12_tins_47 rfl ?_
    refine x_iconst (v := 4) dX12_tins_50 rfl ?_
    first | refine x_aload_n 2 dX12_tins_51 rfl rfl ?_ | refine x_aload_nN 2 dX12_tins_51 rfl rfl ?_
    refine x_iload_n 3 dX12_tins_52 rfl rfl ?_
    refine x_bipush (v := 6) dX12_tins_53 rfl ?_
    refine x_cV1 (As := [.int _, .int _]) (ct_X12_of_6 ok (by omega)) vX12_101 rfl (x_recv (by with_reducible repeat first | assumption | exact mH_0 ok | exact mH_1 | exact hset_s | refine mH_o (by first | assumption | exact nA ok (by omega) (by omega) (by omega)) (by first | assumption | exact nA ok (by omega) (by omega) (by omega)) ?_ | refine hget_n (by first | assumption | exact Ne.symm (by assumption) | exact nA ok (by omega) (by omega) (by omega)) ?_) rfl) rfl ⟨ble rfl, ble rfl⟩ (ble rfl) dX12_tins_55 rfl ?_
    refine x_cV0 (As := [.int _, .int _, .int _]) (ct_X12_hinders ok _ _ _) vX12_82 rfl (x_recv (by with_reducible repeat first | assumption | exact mH_0 ok | exact mH_1 | exact hset_s | refine mH_o (by first | assumption | exact nA ok (by omega) (by omega) (by omega)) (by first | assumption | exact nA ok (by omega) (by omega) (by omega)) ?_ | refine hget_n (by first | assumption | exact Ne.symm (by assumption) | exact nA ok (by omega) (by omega) (by omega)) ?_) rfl) rfl ⟨ble rfl, ble rfl⟩ (ble rfl) dX12_tins_58 rfl ?_
    first | refine x_aload_n 2 dX12_tins_61 rfl rfl ?_ | refine x_aload_nN 2 dX12_tins_61 rfl rfl ?_
    first | refine x_aload_n 2 dX12_tins_62 rfl rfl ?_ | refine x_aload_nN 2 dX12_tins_62 rfl rfl ?_
    refine x_iload_n 3 dX12_tins_63 rfl rfl ?_
    refine x_cV1 (As := [.int _]) (ct_X12_isCracked ok (by omega) (by assumption)) vX12_135 rfl (x_recv (by with_reducible repeat first | assumption | exact mH_0 ok | exact mH_1 | exact hset_s | refine mH_o (by first | assumption | exact nA ok (by omega) (by omega) (by omega)) (by first | assumption | exact nA ok (by omega) (by omega) (by omega)) ?_ | refine hget_n (by first | assumption | exact Ne.symm (by assumption) | exact nA ok (by omega) (by omega) (by omega)) ?_) rfl) rfl ⟨ble rfl, ble rfl⟩ (ble rfl) dX12_tins_64 rfl ?_
    refine x_iconst (v := 5) dX12_tins_67 rfl ?_
    refine x_iload_n 3 dX12_tins_68 rfl rfl ?_
    refine x_cV0 (As := [.int _, .int _, .int _]) (ct_X12_hinders ok _ _ _) vX12_82 rfl (x_recv (by with_reducible repeat first | assumption | exact mH_0 ok | exact mH_1 | exact hset_s | refine mH_o (by first | assumption | exact nA ok (by omega) (by omega) (by omega)) (by first | assumption | exact nA ok (by omega) (by omega) (by omega)) ?_ | refine hget_n (by first | assumption | exact Ne.symm (by assumption) | exact nA ok (by omega) (by omega) (by omega)) ?_) rfl) rfl ⟨ble rfl, ble rfl⟩ (ble rfl) dX12_tins_69 rfl ?_
    first | refine x_aload_n 2 dX12_tins_72 rfl rfl ?_ | refine x_aload_nN 2 dX12_tins_72 rfl rfl ?_
    first | refine x_aload_n 2 dX12_tins_73 rfl rfl ?_ | refine x_aload_nN 2 dX12_tins_73 rfl rfl ?_
    refine x_iload_n 3 dX12_tins_74 rfl rfl ?_
    refine x_cV1 (As := [.int _]) (ct_X12_missingBlows ok (by omega) (by assumption)) vX12_147 rfl (x_recv (by with_reducible repeat first | assumption | exact mH_0 ok | exact mH_1 | exact hset_s | refine mH_o (by first | assumption | exact nA ok (by omega) (by omega) (by omega)) (by first | assumption | exact nA ok (by omega) (by omega) (by omega)) ?_ | refine hget_n (by first | assumption | exact Ne.symm (by assumption) | exact nA ok (by omega) (by omega) (by omega)) ?_) rfl) rfl ⟨ble rfl, ble rfl⟩ (ble rfl) dX12_tins_75 rfl ?_
    have J86 : ∀ v : Int32, v = b2i (0 < mx (kSm (kOf (N (60 + 8 * i))) - N (62 + 8 * i)) 0) → XX l G mX12_tins (Rm 6 (0) (0)) (KQ G (Rm 6 (0) (0)) (fun w h' => ∃ r why' wha' beh' its' N', w = some (.int r) ∧ h' = mH G h (eMd G sv rem typ err lin why' wha' beh' its' siz att wro tol) N' ∧ DeedR (pTin N (nI i) x) r why' wha' beh' its' N')) (0) (0) 86 [(4, .int (N (63 + 8 * i) + x)), (3, .int ((kArea (kOf (N (60 + 8 * i))) * x + 3) / 4)), (0, .ref (Ad G 20)), (1, .int (nI i)), (2, .int x)] [.int v, .ref (Ad G 20)] (mH G h (eMd G sv rem typ err lin (hW (crackedK (kOf (N (60 + 8 * i))) (N (61 + 8 * i)) (N (62 + 8 * i))) (hW (soldK (N (66 + 8 * i))) 0 4) 5) (hD (crackedK (kOf (N (60 + 8 * i))) (N (61 + 8 * i)) (N (62 + 8 * i))) (hW (soldK (N (66 + 8 * i))) 0 4) (hD (soldK (N (66 + 8 * i))) 0 wha (N (66 + 8 * i))) (nI i)) 0 its siz att wro tol) N) := by
      intro v hvv
      subst hvv
      refine x_bipush (v := 6) dX12_tins_86 rfl ?_
      first | refine x_aload_n 2 dX12_tins_88 rfl rfl ?_ | refine x_aload_nN 2 dX12_tins_88 rfl rfl ?_
      refine x_iload_n 3 dX12_tins_89 rfl rfl ?_
      refine x_cV1 (As := [.int _]) (ct_X12_missingBlows ok (by omega) (by assumption)) vX12_147 rfl (x_recv (by with_reducible repeat first | assumption | exact mH_0 ok | exact mH_1 | exact hset_s | refine mH_o (by first | assumption | exact nA ok (by omega) (by omega) (by omega)) (by first | assumption | exact nA ok (by omega) (by omega) (by omega)) ?_ | refine hget_n (by first | assumption | exact Ne.symm (by assumption) | exact nA ok (by omega) (by omega) (by omega)) ?_) rfl) rfl ⟨ble rfl, ble rfl⟩ (ble rfl) dX12_tins_90 rfl ?_
      refine x_cV0 (As := [.int _, .int _, .int _]) (ct_X12_hinders ok _ _ _) vX12_82 rfl (x_recv (by with_reducible repeat first | assumption | exact mH_0 ok | exact mH_1 | exact hset_s | refine mH_o (by first | assumption | exact nA ok (by omega) (by omega) (by omega)) (by first | assumption | exact nA ok (by omega) (by omega) (by omega)) ?_ | refine hget_n (by first | assumption | exact Ne.symm (by assumption) | exact nA ok (by omega) (by omega) (by omega)) ?_) rfl) rfl ⟨ble rfl, ble rfl⟩ (ble rfl) dX12_tins_93 rfl ?_
      first | refine x_aload_n 2 dX12_tins_96 rfl rfl ?_ | refine x_aload_nN 2 dX12_tins_96 rfl rfl ?_
      refine x_iload 0 dX12_tins_97 rfl ?_
      refine x_bipush (v := 9) dX12_tins_99 rfl ?_
      have J109 : ∀ v : Int32, v = b2i (9 < N (63 + 8 * i) + x) → XX l G mX12_tins (Rm 6 (0) (0)) (KQ G (Rm 6 (0) (0)) (fun w h' => ∃ r why' wha' beh' its' N', w = some (.int r) ∧ h' = mH G h (eMd G sv rem typ err lin why' wha' beh' its' siz att wro tol) N' ∧ DeedR (pTin N (nI i) x) r why' wha' beh' its' N')) (0) (0) 109 [(4, .int (N (63 + 8 * i) + x)), (3, .int ((kArea (kOf (N (60 + 8 * i))) * x + 3) / 4)), (0, .ref (Ad G 20)), (1, .int (nI i)), (2, .int x)] [.int v, .ref (Ad G 20)] (mH G h (eMd G sv rem typ err lin (hW (b2i (0 < mx (kSm (kOf (N (60 + 8 * i))) - N (62 + 8 * i)) 0)) (hW (crackedK (kOf (N (60 + 8 * i))) (N (61 + 8 * i)) (N (62 + 8 * i))) (hW (soldK (N (66 + 8 * i))) 0 4) 5) 6) (hD (b2i (0 < mx (kSm (kOf (N (60 + 8 * i))) - N (62 + 8 * i)) 0)) (hW (crackedK (kOf (N (60 + 8 * i))) (N (61 + 8 * i)) (N (62 + 8 * i))) (hW (soldK (N (66 + 8 * i))) 0 4) 5) (hD (crackedK (kOf (N (60 + 8 * i))) (N (61 + 8 * i)) (N (62 + 8 * i))) (hW (soldK (N (66 + 8 * i))) 0 4) (hD (soldK (N (66 + 8 * i))) 0 wha (N (66 + 8 * i))) (nI i)) (mx (kSm (kOf (N (60 + 8 * i))) - N (62 + 8 * i)) 0)) 0 its siz att wro tol) N) := by
        intro v hvv
        subst hvv
        refine x_bipush (v := 7) dX12_tins_109 rfl ?_
        refine x_iload 0 dX12_tins_111 rfl ?_
        refine x_cV0 (As := [.int _, .int _, .int _]) (ct_X12_hinders ok _ _ _) vX12_82 rfl (x_recv (by with_reducible repeat first | assumption | exact mH_0 ok | exact mH_1 | exact hset_s | refine mH_o (by first | assumption | exact nA ok (by omega) (by omega) (by omega)) (by first | assumption | exact nA ok (by omega) (by omega) (by omega)) ?_ | refine hget_n (by first | assumption | exact Ne.symm (by assumption) | exact nA ok (by omega) (by omega) (by omega)) ?_) rfl) rfl ⟨ble rfl, ble rfl⟩ (ble rfl) dX12_tins_113 rfl ?_
        first | refine x_aload_n 2 dX12_tins_116 rfl rfl ?_ | refine x_aload_nN 2 dX12_tins_116 rfl rfl ?_
        first | refine x_aload_n 2 dX12_tins_117 rfl rfl ?_ | refine x_aload_nN 2 dX12_tins_117 rfl rfl ?_
        refine x_get fX12_9 rfl dX12_tins_118 (by with_reducible repeat first | assumption | exact mH_0 ok | exact mH_1 | exact hset_s | refine mH_o (by first | assumption | exact nA ok (by omega) (by omega) (by omega)) (by first | assumption | exact nA ok (by omega) (by omega) (by omega)) ?_ | refine hget_n (by first | assumption | exact Ne.symm (by assumption) | exact nA ok (by omega) (by omega) (by omega)) ?_) (by rfl) ?_
        refine x_iconst (v := 1) dX12_tins_121 rfl ?_
        refine x_mald (i := 1) (by first | exact Eq.refl (nI _) | exact ix_p _ _ | exact ix_o _ _ | exact ix_s _ | exact ix_s1 _ _ | (rw [ix_s]; exact nI_add _ _) | exact nI_add _ 1 | exact nI_add _ 2 | exact nI_add _ 3 | exact nI_add _ 4 | (rw [ix_o0]; exact nI_add _ 3) | (rw [ix_o0]; exact nI_add _ 4) | (rw [ix_o0]; exact nI_add _ _)) dX12_tins_122 (by omega) rfl ?_
        refine x_iload_n 1 dX12_tins_123 rfl rfl ?_
        have J132 : ∀ v : Int32, v = b2i (N 1 < ((kArea (kOf (N (60 + 8 * i))) * x + 3) / 4)) → XX l G mX12_tins (Rm 6 (0) (0)) (KQ G (Rm 6 (0) (0)) (fun w h' => ∃ r why' wha' beh' its' N', w = some (.int r) ∧ h' = mH G h (eMd G sv rem typ err lin why' wha' beh' its' siz att wro tol) N' ∧ DeedR (pTin N (nI i) x) r why' wha' beh' its' N')) (0) (0) 132 [(4, .int (N (63 + 8 * i) + x)), (3, .int ((kArea (kOf (N (60 + 8 * i))) * x + 3) / 4)), (0, .ref (Ad G 20)), (1, .int (nI i)), (2, .int x)] [.int v, .ref (Ad G 20)] (mH G h (eMd G sv rem typ err lin (hW (b2i (9 < N (63 + 8 * i) + x)) (hW (b2i (0 < mx (kSm (kOf (N (60 + 8 * i))) - N (62 + 8 * i)) 0)) (hW (crackedK (kOf (N (60 + 8 * i))) (N (61 + 8 * i)) (N (62 + 8 * i))) (hW (soldK (N (66 + 8 * i))) 0 4) 5) 6) 7) (hD (b2i (9 < N (63 + 8 * i) + x)) (hW (b2i (0 < mx (kSm (kOf (N (60 + 8 * i))) - N (62 + 8 * i)) 0)) (hW (crackedK (kOf (N (60 + 8 * i))) (N (61 + 8 * i)) (N (62 + 8 * i))) (hW (soldK (N (66 + 8 * i))) 0 4) 5) 6) (hD (b2i (0 < mx (kSm (kOf (N (60 + 8 * i))) - N (62 + 8 * i)) 0)) (hW (crackedK (kOf (N (60 + 8 * i))) (N (61 + 8 * i)) (N (62 + 8 * i))) (hW (soldK (N (66 + 8 * i))) 0 4) 5) (hD (crackedK (kOf (N (60 + 8 * i))) (N (61 + 8 * i)) (N (62 + 8 * i))) (hW (soldK (N (66 + 8 * i))) 0 4) (hD (soldK (N (66 + 8 * i))) 0 wha (N (66 + 8 * i))) (nI i)) (mx (kSm (kOf (N (60 + 8 * i))) - N (62 + 8 * i)) 0)) (N (63 + 8 * i) + x)) 0 its siz att wro tol) N) := by
          intro v hvv
          subst hvv
          refine x_bipush (v := 8) dX12_tins_132 rfl ?_
          refine x_iload_n 1 dX12_tins_134 rfl rfl ?_
          first | refine x_aload_n 2 dX12_tins_135 rfl rfl ?_ | refine x_aload_nN 2 dX12_tins_135 rfl rfl ?_
          refine x_get fX12_9 rfl dX12_tins_136 (by with_reducible repeat first | assumption | exact mH_0 ok | exact mH_1 | exact hset_s | refine mH_o (by first | assumption | exact nA ok (by omega) (by omega) (by omega)) (by first | assumption | exact nA ok (by omega) (by omega) (by omega)) ?_ | refine hget_n (by first | assumption | exact Ne.symm (by assumption) | exact nA ok (by omega) (by omega) (by omega)) ?_) (by rfl) ?_
          refine x_iconst (v := 1) dX12_tins_139 rfl ?_
          refine x_mald (i := 1) (by first | exact Eq.refl (nI _) | exact ix_p _ _ | exact ix_o _ _ | exact ix_s _ | exact ix_s1 _ _ | (rw [ix_s]; exact nI_add _ _) | exact nI_add _ 1 | exact nI_add _ 2 | exact nI_add _ 3 | exact nI_add _ 4 | (rw [ix_o0]; exact nI_add _ 3) | (rw [ix_o0]; exact nI_add _ 4) | (rw [ix_o0]; exact nI_add _ _)) dX12_tins_140 (by omega) rfl ?_
          refine x_isub dX12_tins_141 ?_
          refine x_cV0 (As := [.int _, .int _, .int _]) (ct_X12_hinders ok _ _ _) vX12_82 rfl (x_recv (by with_reducible repeat first | assumption | exact mH_0 ok | exact mH_1 | exact hset_s | refine mH_o (by first | assumption | exact nA ok (by omega) (by omega) (by omega)) (by first | assumption | exact nA ok (by omega) (by omega) (by omega)) ?_ | refine hget_n (by first | assumption | exact Ne.symm (by assumption) | exact nA ok (by omega) (by omega) (by omega)) ?_) rfl) rfl ⟨ble rfl, ble rfl⟩ (ble rfl) dX12_tins_142 rfl ?_
          first | refine x_aload_n 2 dX12_tins_145 rfl rfl ?_ | refine x_aload_nN 2 dX12_tins_145 rfl rfl ?_
          refine x_iload_n 3 dX12_tins_146 rfl rfl ?_
          refine x_iconst (v := 3) dX12_tins_147 rfl ?_
          refine x_iload 0 dX12_tins_148 rfl ?_
          refine x_cV0 (As := [.int _, .int _, .int _]) (ct_X12_becomes_3 ok (by omega) _) vX12_123 rfl (x_recv (by with_reducible repeat first | assumption | exact mH_0 ok | exact mH_1 | exact hset_s | refine mH_o (by first | assumption | exact nA ok (by omega) (by omega) (by omega)) (by first | assumption | exact nA ok (by omega) (by omega) (by omega)) ?_ | refine hget_n (by first | assumption | exact Ne.symm (by assumption) | exact nA ok (by omega) (by omega) (by omega)) ?_) rfl) rfl ⟨ble rfl, ble rfl⟩ (ble rfl) dX12_tins_150 rfl ?_
          first | refine x_aload_n 2 dX12_tins_153 rfl rfl ?_ | refine x_aload_nN 2 dX12_tins_153 rfl rfl ?_
          refine x_get fX12_9 rfl dX12_tins_154 (by with_reducible repeat first | assumption | exact mH_0 ok | exact mH_1 | exact hset_s | refine mH_o (by first | assumption | exact nA ok (by omega) (by omega) (by omega)) (by first | assumption | exact nA ok (by omega) (by omega) (by omega)) ?_ | refine hget_n (by first | assumption | exact Ne.symm (by assumption) | exact nA ok (by omega) (by omega) (by omega)) ?_) (by rfl) ?_
          refine x_iconst (v := 1) dX12_tins_157 rfl ?_
          refine x_dup2 dX12_tins_158 rfl rfl ?_
          refine x_mald (i := 1) (by first | exact Eq.refl (nI _) | exact ix_p _ _ | exact ix_o _ _ | exact ix_s _ | exact ix_s1 _ _ | (rw [ix_s]; exact nI_add _ _) | exact nI_add _ 1 | exact nI_add _ 2 | exact nI_add _ 3 | exact nI_add _ 4 | (rw [ix_o0]; exact nI_add _ 3) | (rw [ix_o0]; exact nI_add _ 4) | (rw [ix_o0]; exact nI_add _ _)) dX12_tins_159 (by omega) rfl ?_
          refine x_iload_n 1 dX12_tins_160 rfl rfl ?_
          refine x_isub dX12_tins_161 ?_
          refine x_mast (i := 1) ok (by first | exact Eq.refl (nI _) | exact ix_p _ _ | exact ix_o _ _ | exact ix_s _ | exact ix_s1 _ _ | (rw [ix_s]; exact nI_add _ _) | exact nI_add _ 1 | exact nI_add _ 2 | exact nI_add _ 3 | exact nI_add _ 4 | (rw [ix_o0]; exact nI_add _ 3) | (rw [ix_o0]; exact nI_add _ 4) | (rw [ix_o0]; exact nI_add _ _)) dX12_tins_162 (by omega) ?_
          first | refine x_aload_n 2 dX12_tins_163 rfl rfl ?_ | refine x_aload_nN 2 dX12_tins_163 rfl rfl ?_
          refine x_get fX12_9 rfl dX12_tins_164 (by with_reducible repeat first | assumption | exact mH_0 ok | exact mH_1 | exact hset_s | refine mH_o (by first | assumption | exact nA ok (by omega) (by omega) (by omega)) (by first | assumption | exact nA ok (by omega) (by omega) (by omega)) ?_ | refine hget_n (by first | assumption | exact Ne.symm (by assumption) | exact nA ok (by omega) (by omega) (by omega)) ?_) (by rfl) ?_
          refine x_bipush (v := 8) dX12_tins_167 rfl ?_
          refine x_dup2 dX12_tins_169 rfl rfl ?_
          refine x_mald (i := 8) (by first | exact Eq.refl (nI _) | exact ix_p _ _ | exact ix_o _ _ | exact ix_s _ | exact ix_s1 _ _ | (rw [ix_s]; exact nI_add _ _) | exact nI_add _ 1 | exact nI_add _ 2 | exact nI_add _ 3 | exact nI_add _ 4 | (rw [ix_o0]; exact nI_add _ 3) | (rw [ix_o0]; exact nI_add _ 4) | (rw [ix_o0]; exact nI_add _ _)) dX12_tins_170 (by omega) rfl ?_
          refine x_iload_n 1 dX12_tins_171 rfl rfl ?_
          refine x_iadd dX12_tins_172 ?_
          refine x_mast (i := 8) ok (by first | exact Eq.refl (nI _) | exact ix_p _ _ | exact ix_o _ _ | exact ix_s _ | exact ix_s1 _ _ | (rw [ix_s]; exact nI_add _ _) | exact nI_add _ 1 | exact nI_add _ 2 | exact nI_add _ 3 | exact nI_add _ 4 | (rw [ix_o0]; exact nI_add _ 3) | (rw [ix_o0]; exact nI_add _ 4) | (rw [ix_o0]; exact nI_add _ _)) dX12_tins_173 (by omega) ?_
          first | refine x_aload_n 2 dX12_tins_174 rfl rfl ?_ | refine x_aload_nN 2 dX12_tins_174 rfl rfl ?_
          refine x_get fX12_9 rfl dX12_tins_175 (by with_reducible repeat first | assumption | exact mH_0 ok | exact mH_1 | exact hset_s | refine mH_o (by first | assumption | exact nA ok (by omega) (by omega) (by omega)) (by first | assumption | exact nA ok (by omega) (by omega) (by omega)) ?_ | refine hget_n (by first | assumption | exact Ne.symm (by assumption) | exact nA ok (by omega) (by omega) (by omega)) ?_) (by rfl) ?_
          refine x_bipush (v := 7) dX12_tins_178 rfl ?_
          refine x_dup2 dX12_tins_180 rfl rfl ?_
          refine x_mald (i := 7) (by first | exact Eq.refl (nI _) | exact ix_p _ _ | exact ix_o _ _ | exact ix_s _ | exact ix_s1 _ _ | (rw [ix_s]; exact nI_add _ _) | exact nI_add _ 1 | exact nI_add _ 2 | exact nI_add _ 3 | exact nI_add _ 4 | (rw [ix_o0]; exact nI_add _ 3) | (rw [ix_o0]; exact nI_add _ 4) | (rw [ix_o0]; exact nI_add _ _)) dX12_tins_181 (by omega) rfl ?_
          refine x_iload_n 4 dX12_tins_182 rfl rfl ?_
          refine x_iadd dX12_tins_183 ?_
          refine x_mast (i := 7) ok (by first | exact Eq.refl (nI _) | exact ix_p _ _ | exact ix_o _ _ | exact ix_s _ | exact ix_s1 _ _ | (rw [ix_s]; exact nI_add _ _) | exact nI_add _ 1 | exact nI_add _ 2 | exact nI_add _ 3 | exact nI_add _ 4 | (rw [ix_o0]; exact nI_add _ 3) | (rw [ix_o0]; exact nI_add _ 4) | (rw [ix_o0]; exact nI_add _ _)) dX12_tins_184 (by omega) ?_
          refine x_iload 0 dX12_tins_185 rfl ?_
          refine x_iret rfl dX12_tins_187 ?_
          refine ⟨_, _, _, _, _, _, rfl, rfl, ?_⟩
          simp (disch := omega) only [upd_ne, upd_eq]
          simp only [hq3]
          unfold pTin
          rw [if_neg (fun z => z hin), if_neg (fun z => c17 (inI_0.mpr z))]
          by_cases z0 : soldK (N (66 + 8 * i)) = 0 <;> by_cases z1 : crackedK (kOf (N (60 + 8 * i))) (N (61 + 8 * i)) (N (62 + 8 * i)) = 0 <;> by_cases z2 : N (62 + 8 * i) < kSm (kOf (N (60 + 8 * i))) <;> by_cases z3 : 9 < N (63 + 8 * i) + x <;> by_cases z4 : N 1 < ((kArea (kOf (N (60 + 8 * i))) * x + 3) / 4) <;> simp [DeedR, hinK, hW, hD, b2i, hcl, z0, z1, z2, z3, z4]
        refine x_icmp_ge 131 dX12_tins_124 (by decide) (fun c124 => ?_) (fun c124 => ?_)
        · refine x_iconst (v := 0) dX12_tins_131 rfl ?_
          refine x_locs (L' := [(4, _), (3, _), (0, _), (1, _), (2, _)]) [0, 1, 2, 3, 4] rfl ?_
          refine J132 _ ?_
          unfold b2i
          first | exact (if_pos (by first | assumption | (apply Int32.not_le.mp; assumption) | (apply Int32.not_lt.mp; assumption))).symm | exact (if_neg (by first | assumption | (apply Int32.not_lt.mpr; assumption) | (apply Int32.not_le.mpr; assumption))).symm
        · refine x_iconst (v := 1) dX12_tins_127 rfl ?_
          refine x_goto 132 dX12_tins_128 (by decide) ?_
          refine x_locs (L' := [(4, _), (3, _), (0, _), (1, _), (2, _)]) [0, 1, 2, 3, 4] rfl ?_
          refine J132 _ ?_
          unfold b2i
          first | exact (if_pos (by first | assumption | (apply Int32.not_le.mp; assumption) | (apply Int32.not_lt.mp; assumption))).symm | exact (if_neg (by first | assumption | (apply Int32.not_lt.mpr; assumption) | (apply Int32.not_le.mpr; assumption))).symm
      refine x_icmp_le 108 dX12_tins_101 (by decide) (fun c101 => ?_) (fun c101 => ?_)
      · refine x_iconst (v := 0) dX12_tins_108 rfl ?_
        refine x_locs (L' := [(4, _), (3, _), (0, _), (1, _), (2, _)]) [0, 1, 2, 3, 4] rfl ?_
        refine J109 _ ?_
        unfold b2i
        first | exact (if_pos (by first | assumption | (apply Int32.not_le.mp; assumption) | (apply Int32.not_lt.mp; assumption))).symm | exact (if_neg (by first | assumption | (apply Int32.not_lt.mpr; assumption) | (apply Int32.not_le.mpr; assumption))).symm
      · refine x_iconst (v := 1) dX12_tins_104 rfl ?_
        refine x_goto 109 dX12_tins_105 (by decide) ?_
        refine x_locs (L' := [(4, _), (3, _), (0, _), (1, _), (2, _)]) [0, 1, 2, 3, 4] rfl ?_
        refine J109 _ ?_
        unfold b2i
        first | exact (if_pos (by first | assumption | (apply Int32.not_le.mp; assumption) | (apply Int32.not_lt.mp; assumption))).symm | exact (if_neg (by first | assumption | (apply Int32.not_lt.mpr; assumption) | (apply Int32.not_le.mpr; assumption))).symm
    refine x_if_le 85 dX12_tins_78 (by decide) (fun c78 => ?_) (fun c78 => ?_)
    · refine x_iconst (v := 0) dX12_tins_85 rfl ?_
      refine x_locs (L' := [(4, _), (3, _), (0, _), (1, _), (2, _)]) [0, 1, 2, 3, 4] rfl ?_
      refine J86 _ ?_
      unfold b2i
      first | exact (if_pos (by first | assumption | (apply Int32.not_le.mp; assumption) | (apply Int32.not_lt.mp; assumption))).symm | exact (if_neg (by first | assumption | (apply Int32.not_lt.mpr; assumption) | (apply Int32.not_le.mpr; assumption))).symm
    · refine x_iconst (v := 1) dX12_tins_81 rfl ?_
      refine x_goto 86 dX12_tins_82 (by decide) ?_
      refine x_locs (L' := [(4, _), (3, _), (0, _), (1, _), (2, _)]) [0, 1, 2, 3, 4] rfl ?_
      refine J86 _ ?_
      unfold b2i
      first | exact (if_pos (by first | assumption | (apply Int32.not_le.mp; assumption) | (apply Int32.not_lt.mp; assumption))).symm | exact (if_neg (by first | assumption | (apply Int32.not_lt.mpr; assumption) | (apply Int32.not_le.mpr; assumption))).symm
  · refine x_bipush (v := -2) dX12_tins_20 rfl ?_
    refine x_iret rfl dX12_tins_22 ?_
    refine ⟨_, _, _, _, _, _, rfl, rfl, ?_⟩
    unfold pTin
    rw [if_neg (fun z => z hin), if_pos (inI_0.mp c17)]
    exact ⟨rfl, rfl, rfl⟩
