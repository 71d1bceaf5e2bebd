set_option maxRecDepth 100000 in
set_option maxHeartbeats 4000000 in
theorem ct_xalike {l : Launch} {G : Gl} {h : Hp} {N : Nat → Int32} {ns np no : Nat} {isv flt : Int32} (ok : Ok G) (hst : h (Ad G 0) = some (eSt G isv flt)) (H : ShW G h 1000 N ns np no) {f : Nat → Int32} {sz : Nat} (C : ChW G h sz f) : CtR l G mX11_alike 6 [.ref (Ad G 0)] h (some (.int (sm (fun i => sm (prI (lsF N f np) i) i) np))) ((hset (hset h (Ad G 7) (.inr (1, [.ref (Ad G 8), .int (nI np)]))) (Ad G 8) (eI G 16 (lsF N f np)))) := by
  obtain ⟨hsh, has, hap, hao, ⟨gp, hag⟩, hns, hnp, hno, bs, bp, bo, hS, hP, hO, -⟩ := id H
  obtain ⟨h7, h8⟩ := id C
  have C2 : ChW G (hset (hset h (Ad G 7) (.inr (1, [.ref (Ad G 8), .int (nI np)]))) (Ad G 8) (eI G 16 (lsF N f np))) np (lsF N f np) := ⟨hget_n (nA ok (by omega) (by omega) (by omega)) hset_s, hset_s⟩
  obtain ⟨h72, h82⟩ := id C2
  refine Ct.of (L := [(0, _)]) (by decide) (ble rfl) rfl ?_
  first | refine x_aload_n 0 dX11_alike_0 rfl rfl ?_ | refine x_aload_nN 0 dX11_alike_0 rfl rfl ?_
  refine x_get fX11_42 rfl dX11_alike_1 (by with_reducible repeat first | assumption | exact hset_s | refine hget_n (by first | assumption | exact Ne.symm (by assumption) | exact nA ok (by omega) (by omega) (by omega)) ?_) (by rfl) ?_
  first | refine x_aload_n 0 dX11_alike_4 rfl rfl ?_ | refine x_aload_nN 0 dX11_alike_4 rfl rfl ?_
  refine x_get fX11_20 rfl dX11_alike_5 (by with_reducible repeat first | assumption | exact hset_s | refine hget_n (by first | assumption | exact Ne.symm (by assumption) | exact nA ok (by omega) (by omega) (by omega)) ?_) (by rfl) ?_
  refine x_cV0 (As := [.ref _]) (ct_X0_listen ok H C) vX11_167 rfl (x_recv (by with_reducible repeat first | assumption | exact hset_s | refine hget_n (by first | assumption | exact Ne.symm (by assumption) | exact nA ok (by omega) (by omega) (by omega)) ?_) rfl) rfl ⟨ble rfl, ble rfl⟩ (ble rfl) dX11_alike_8 rfl ?_
  first | refine x_aload_n 0 dX11_alike_11 rfl rfl ?_ | refine x_aload_nN 0 dX11_alike_11 rfl rfl ?_
  refine x_get fX11_42 rfl dX11_alike_12 (by with_reducible repeat first | assumption | exact hset_s | refine hget_n (by first | assumption | exact Ne.symm (by assumption) | exact nA ok (by omega) (by omega) (by omega)) ?_) (by rfl) ?_
  refine x_cV1 (As := []) (ct_X0_pairs C2 (by omega)) vX11_170 rfl (x_recv (by with_reducible repeat first | assumption | exact hset_s | refine hget_n (by first | assumption | exact Ne.symm (by assumption) | exact nA ok (by omega) (by omega) (by omega)) ?_) rfl) rfl ⟨ble rfl, ble rfl⟩ (ble rfl) dX11_alike_15 rfl ?_
  refine x_iret rfl dX11_alike_18 ?_
  show some (Value.int (sm (fun i => sm (prI (lsF N f np) i) i) np)) = some (Value.int (sm (fun i => sm (prI (lsF N f np) i) i) np)) ∧ (hset (hset h (Ad G 7) (.inr (1, [.ref (Ad G 8), .int (nI np)]))) (Ad G 8) (eI G 16 (lsF N f np))) = (hset (hset h (Ad G 7) (.inr (1, [.ref (Ad G 8), .int (nI np)]))) (Ad G 8) (eI G 16 (lsF N f np)))
  exact ⟨rfl, rfl⟩
set_option maxRecDepth 100000 in
set_option maxHeartbeats 4000000 in
theorem ct_xranked {l : Launch} {G : Gl} {h : Hp} {N : Nat → Int32} {ns np no : Nat} {isv flt : Int32} (ok : Ok G) (hst : h (Ad G 0) = some (eSt G isv flt)) (H : ShW G h 1000 N ns np no) {f : Nat → Int32} {sz : Nat} (C : ChW G h sz f) (x : Int32) : CtR l G mX11_ranked 6 [.ref (Ad G 0), .int x] h (some (.int (plS (lsF N f np) np x))) ((hset (hset h (Ad G 7) (.inr (1, [.ref (Ad G 8), .int (nI np)]))) (Ad G 8) (eI G 16 (lsF N f np)))) := by
  obtain ⟨hsh, has, hap, hao, ⟨gp, hag⟩, hns, hnp, hno, bs, bp, bo, hS, hP, hO, -⟩ := id H
  obtain ⟨h7, h8⟩ := id C
  have C2 : ChW G (hset (hset h (Ad G 7) (.inr (1, [.ref (Ad G 8), .int (nI np)]))) (Ad G 8) (eI G 16 (lsF N f np))) np (lsF N f np) := ⟨hget_n (nA ok (by omega) (by omega) (by omega)) hset_s, hset_s⟩
  obtain ⟨h72, h82⟩ := id C2
  refine Ct.of (L := [(0, _), (1, _)]) (by decide) (ble rfl) rfl ?_
  first | refine x_aload_n 0 dX11_ranked_0 rfl rfl ?_ | refine x_aload_nN 0 dX11_ranked_0 rfl rfl ?_
  refine x_get fX11_42 rfl dX11_ranked_1 (by with_reducible repeat first | assumption | exact hset_s | refine hget_n (by first | assumption | exact Ne.symm (by assumption) | exact nA ok (by omega) (by omega) (by omega)) ?_) (by rfl) ?_
  first | refine x_aload_n 0 dX11_ranked_4 rfl rfl ?_ | refine x_aload_nN 0 dX11_ranked_4 rfl rfl ?_
  refine x_get fX11_20 rfl dX11_ranked_5 (by with_reducible repeat first | assumption | exact hset_s | refine hget_n (by first | assumption | exact Ne.symm (by assumption) | exact nA ok (by omega) (by omega) (by omega)) ?_) (by rfl) ?_
  refine x_cV0 (As := [.ref _]) (ct_X0_listen ok H C) vX11_167 rfl (x_recv (by with_reducible repeat first | assumption | exact hset_s | refine hget_n (by first | assumption | exact Ne.symm (by assumption) | exact nA ok (by omega) (by omega) (by omega)) ?_) rfl) rfl ⟨ble rfl, ble rfl⟩ (ble rfl) dX11_ranked_8 rfl ?_
  first | refine x_aload_n 0 dX11_ranked_11 rfl rfl ?_ | refine x_aload_nN 0 dX11_ranked_11 rfl rfl ?_
  refine x_get fX11_42 rfl dX11_ranked_12 (by with_reducible repeat first | assumption | exact hset_s | refine hget_n (by first | assumption | exact Ne.symm (by assumption) | exact nA ok (by omega) (by omega) (by omega)) ?_) (by rfl) ?_
  refine x_iload_n 1 dX11_ranked_15 rfl rfl ?_
  refine x_cV1 (As := [.int _]) (ct_X0_atPlace C2 (by omega) _) vX11_173 rfl (x_recv (by with_reducible repeat first | assumption | exact hset_s | refine hget_n (by first | assumption | exact Ne.symm (by assumption) | exact nA ok (by omega) (by omega) (by omega)) ?_) rfl) rfl ⟨ble rfl, ble rfl⟩ (ble rfl) dX11_ranked_16 rfl ?_
  refine x_iret rfl dX11_ranked_19 ?_
  show some (Value.int (plS (lsF N f np) np x)) = some (Value.int (plS (lsF N f np) np x)) ∧ (hset (hset h (Ad G 7) (.inr (1, [.ref (Ad G 8), .int (nI np)]))) (Ad G 8) (eI G 16 (lsF N f np))) = (hset (hset h (Ad G 7) (.inr (1, [.ref (Ad G 8), .int (nI np)]))) (Ad G 8) (eI G 16 (lsF N f np)))
  exact ⟨rfl, rfl⟩
set_option maxRecDepth 100000 in
set_option maxHeartbeats 4000000 in
theorem ct_xpeal_in {l : Launch} {G : Gl} {h : Hp} {N : Nat → Int32} {ns np no : Nat} {isv flt : Int32} (ok : Ok G) (hst : h (Ad G 0) = some (eSt G isv flt)) (H : ShW G h 1000 N ns np no) {f : Nat → Int32} {sz : Nat} (C : ChW G h sz f) (x : Int32) (hx : ¬ (x < 1 ∨ 20 < x)) : CtR l G mX11_peal 6 [.ref (Ad G 0), .int x] h (some (.int (chS (lsF N f np) np x))) ((hset (hset h (Ad G 7) (.inr (1, [.ref (Ad G 8), .int (nI np)]))) (Ad G 8) (eI G 16 (lsF N f np)))) := by
  obtain ⟨hsh, has, hap, hao, ⟨gp, hag⟩, hns, hnp, hno, bs, bp, bo, hS, hP, hO, -⟩ := id H
  obtain ⟨h7, h8⟩ := id C
  have C2 : ChW G (hset (hset h (Ad G 7) (.inr (1, [.ref (Ad G 8), .int (nI np)]))) (Ad G 8) (eI G 16 (lsF N f np))) np (lsF N f np) := ⟨hget_n (nA ok (by omega) (by omega) (by omega)) hset_s, hset_s⟩
  obtain ⟨h72, h82⟩ := id C2
  refine Ct.of (L := [(0, _), (1, _)]) (by decide) (ble rfl) rfl ?_
  refine x_iload_n 1 dX11_peal_0 rfl rfl ?_
  refine x_iconst (v := 1) dX11_peal_1 rfl ?_
  refine x_icmp_lt 11 dX11_peal_2 (by decide) (fun z => by first | exact absurd z (fun z => hx (Or.inl z)) | exact absurd (fun z => hx (Or.inl z)) z) (fun _ => ?_)
  refine x_iload_n 1 dX11_peal_5 rfl rfl ?_
  refine x_bipush (v := 20) dX11_peal_6 rfl ?_
  refine x_icmp_le 14 dX11_peal_8 (by decide) (fun _ => ?_) (fun z => by first | exact absurd (Int32.not_lt.mp (fun z => hx (Or.inr z))) z | exact absurd z (Int32.not_lt.mp (fun z => hx (Or.inr z))))
  first | refine x_aload_n 0 dX11_peal_14 rfl rfl ?_ | refine x_aload_nN 0 dX11_peal_14 rfl rfl ?_
  refine x_get fX11_42 rfl dX11_peal_15 (by with_reducible repeat first | assumption | exact hset_s | refine hget_n (by first | assumption | exact Ne.symm (by assumption) | exact nA ok (by omega) (by omega) (by omega)) ?_) (by rfl) ?_
  first | refine x_aload_n 0 dX11_peal_18 rfl rfl ?_ | refine x_aload_nN 0 dX11_peal_18 rfl rfl ?_
  refine x_get fX11_20 rfl dX11_peal_19 (by with_reducible repeat first | assumption | exact hset_s | refine hget_n (by first | assumption | exact Ne.symm (by assumption) | exact nA ok (by omega) (by omega) (by omega)) ?_) (by rfl) ?_
  refine x_cV0 (As := [.ref _]) (ct_X0_listen ok H C) vX11_167 rfl (x_recv (by with_reducible repeat first | assumption | exact hset_s | refine hget_n (by first | assumption | exact Ne.symm (by assumption) | exact nA ok (by omega) (by omega) (by omega)) ?_) rfl) rfl ⟨ble rfl, ble rfl⟩ (ble rfl) dX11_peal_22 rfl ?_
  first | refine x_aload_n 0 dX11_peal_25 rfl rfl ?_ | refine x_aload_nN 0 dX11_peal_25 rfl rfl ?_
  refine x_get fX11_42 rfl dX11_peal_26 (by with_reducible repeat first | assumption | exact hset_s | refine hget_n (by first | assumption | exact Ne.symm (by assumption) | exact nA ok (by omega) (by omega) (by omega)) ?_) (by rfl) ?_
  refine x_iload_n 1 dX11_peal_29 rfl rfl ?_
  refine x_cV1 (As := [.int _]) (ct_X0_chain C2 (by omega) _) vX11_176 rfl (x_recv (by with_reducible repeat first | assumption | exact hset_s | refine hget_n (by first | assumption | exact Ne.symm (by assumption) | exact nA ok (by omega) (by omega) (by omega)) ?_) rfl) rfl ⟨ble rfl, ble rfl⟩ (ble rfl) dX11_peal_30 rfl ?_
  refine x_iret rfl dX11_peal_33 ?_
  show some (Value.int (chS (lsF N f np) np x)) = some (Value.int (chS (lsF N f np) np x)) ∧ (hset (hset h (Ad G 7) (.inr (1, [.ref (Ad G 8), .int (nI np)]))) (Ad G 8) (eI G 16 (lsF N f np))) = (hset (hset h (Ad G 7) (.inr (1, [.ref (Ad G 8), .int (nI np)]))) (Ad G 8) (eI G 16 (lsF N f np)))
  exact ⟨rfl, rfl⟩
set_option maxRecDepth 100000 in
set_option maxHeartbeats 4000000 in
theorem ct_xpeal_out {l : Launch} {G : Gl} {h : Hp} {N : Nat → Int32} {ns np no : Nat} {isv flt : Int32} (ok : Ok G) (hst : h (Ad G 0) = some (eSt G isv flt)) (H : ShW G h 1000 N ns np no) (x : Int32) (hx : x < 1 ∨ 20 < x) : CtR l G mX11_peal 6 [.ref (Ad G 0), .int x] h (some (.int (-2))) (h) := by
  obtain ⟨hsh, has, hap, hao, ⟨gp, hag⟩, hns, hnp, hno, bs, bp, bo, hS, hP, hO, -⟩ := id H
  refine Ct.of (L := [(0, _), (1, _)]) (by decide) (ble rfl) rfl ?_
  refine x_iload_n 1 dX11_peal_0 rfl rfl ?_
  refine x_iconst (v := 1) dX11_peal_1 rfl ?_
  refine x_icmp_lt 11 dX11_peal_2 (by decide) (fun c2 => ?_) (fun c2 => ?_)
  · refine x_bipush (v := -2) dX11_peal_11 rfl ?_
    refine x_iret rfl dX11_peal_13 ?_
    first | (show some (Value.int (-2)) = some (Value.int (-2)) ∧ h = h; exact ⟨rfl, rfl⟩)
  · refine x_iload_n 1 dX11_peal_5 rfl rfl ?_
    refine x_bipush (v := 20) dX11_peal_6 rfl ?_
    refine x_icmp_le 14 dX11_peal_8 (by decide) (fun c8 => ?_) (fun c8 => ?_)
    · exfalso
      exact hx.elim c2 (fun z => absurd c8 (Int32.not_le.mpr z))
    · refine x_bipush (v := -2) dX11_peal_11 rfl ?_
      refine x_iret rfl dX11_peal_13 ?_
      first | (show some (Value.int (-2)) = some (Value.int (-2)) ∧ h = h; exact ⟨rfl, rfl⟩)
set_option maxRecDepth 100000 in
set_option maxHeartbeats 4000000 in
theorem ct_xnearest_in {l : Launch} {G : Gl} {h : Hp} {N : Nat → Int32} {ns np no : Nat} {isv flt : Int32} (ok : Ok G) (hst : h (Ad G 0) = some (eSt G isv flt)) (H : ShW G h 1000 N ns np no) {f : Nat → Int32} {sz : Nat} (C : ChW G h sz f) (x : Int32) (hx : ¬ (x < 0 ∨ 120 < x)) : CtR l G mX11_nearest 6 [.ref (Ad G 0), .int x] h (some (.int (clS (lsF N f np) x np))) ((hset (hset h (Ad G 7) (.inr (1, [.ref (Ad G 8), .int (nI np)]))) (Ad G 8) (eI G 16 (lsF N f np)))) := by
  obtain ⟨hsh, has, hap, hao, ⟨gp, hag⟩, hns, hnp, hno, bs, bp, bo, hS, hP, hO, -⟩ := id H
  obtain ⟨h7, h8⟩ := id C
  have C2 : ChW G (hset (hset h (Ad G 7) (.inr (1, [.ref (Ad G 8), .int (nI np)]))) (Ad G 8) (eI G 16 (lsF N f np))) np (lsF N f np) := ⟨hget_n (nA ok (by omega) (by omega) (by omega)) hset_s, hset_s⟩
  obtain ⟨h72, h82⟩ := id C2
  refine Ct.of (L := [(0, _), (1, _)]) (by decide) (ble rfl) rfl ?_
  refine x_iload_n 1 dX11_nearest_0 rfl rfl ?_
  refine x_if_lt 10 dX11_nearest_1 (by decide) (fun z => by first | exact absurd z (fun z => hx (Or.inl z)) | exact absurd (fun z => hx (Or.inl z)) z) (fun _ => ?_)
  refine x_iload_n 1 dX11_nearest_4 rfl rfl ?_
  refine x_bipush (v := 120) dX11_nearest_5 rfl ?_
  refine x_icmp_le 13 dX11_nearest_7 (by decide) (fun _ => ?_) (fun z => by first | exact absurd (Int32.not_lt.mp (fun z => hx (Or.inr z))) z | exact absurd z (Int32.not_lt.mp (fun z => hx (Or.inr z))))
  first | refine x_aload_n 0 dX11_nearest_13 rfl rfl ?_ | refine x_aload_nN 0 dX11_nearest_13 rfl rfl ?_
  refine x_get fX11_42 rfl dX11_nearest_14 (by with_reducible repeat first | assumption | exact hset_s | refine hget_n (by first | assumption | exact Ne.symm (by assumption) | exact nA ok (by omega) (by omega) (by omega)) ?_) (by rfl) ?_
  first | refine x_aload_n 0 dX11_nearest_17 rfl rfl ?_ | refine x_aload_nN 0 dX11_nearest_17 rfl rfl ?_
  refine x_get fX11_20 rfl dX11_nearest_18 (by with_reducible repeat first | assumption | exact hset_s | refine hget_n (by first | assumption | exact Ne.symm (by assumption) | exact nA ok (by omega) (by omega) (by omega)) ?_) (by rfl) ?_
  refine x_cV0 (As := [.ref _]) (ct_X0_listen ok H C) vX11_167 rfl (x_recv (by with_reducible repeat first | assumption | exact hset_s | refine hget_n (by first | assumption | exact Ne.symm (by assumption) | exact nA ok (by omega) (by omega) (by omega)) ?_) rfl) rfl ⟨ble rfl, ble rfl⟩ (ble rfl) dX11_nearest_21 rfl ?_
  first | refine x_aload_n 0 dX11_nearest_24 rfl rfl ?_ | refine x_aload_nN 0 dX11_nearest_24 rfl rfl ?_
  refine x_get fX11_42 rfl dX11_nearest_25 (by with_reducible repeat first | assumption | exact hset_s | refine hget_n (by first | assumption | exact Ne.symm (by assumption) | exact nA ok (by omega) (by omega) (by omega)) ?_) (by rfl) ?_
  refine x_iload_n 1 dX11_nearest_28 rfl rfl ?_
  refine x_cV1 (As := [.int _]) (ct_X0_closest C2 (by omega) _) vX11_179 rfl (x_recv (by with_reducible repeat first | assumption | exact hset_s | refine hget_n (by first | assumption | exact Ne.symm (by assumption) | exact nA ok (by omega) (by omega) (by omega)) ?_) rfl) rfl ⟨ble rfl, ble rfl⟩ (ble rfl) dX11_nearest_29 rfl ?_
  refine x_iret rfl dX11_nearest_32 ?_
  show some (Value.int (clS (lsF N f np) x np)) = some (Value.int (clS (lsF N f np) x np)) ∧ (hset (hset h (Ad G 7) (.inr (1, [.ref (Ad G 8), .int (nI np)]))) (Ad G 8) (eI G 16 (lsF N f np))) = (hset (hset h (Ad G 7) (.inr (1, [.ref (Ad G 8), .int (nI np)]))) (Ad G 8) (eI G 16 (lsF N f np)))
  exact ⟨rfl, rfl⟩
set_option maxRecDepth 100000 in
set_option maxHeartbeats 4000000 in
theorem ct_xnearest_out {l : Launch} {G : Gl} {h : Hp} {N : Nat → Int32} {ns np no : Nat} {isv flt : Int32} (ok : Ok G) (hst : h (Ad G 0) = some (eSt G isv flt)) (H : ShW G h 1000 N ns np no) (x : Int32) (hx : x < 0 ∨ 120 < x) : CtR l G mX11_nearest 6 [.ref (Ad G 0), .int x] h (some (.int (-2))) (h) := by
  obtain ⟨hsh, has, hap, hao, ⟨gp, hag⟩, hns, hnp, hno, bs, bp, bo, hS, hP, hO, -⟩ := id H
  refine Ct.of (L := [(0, _), (1, _)]) (by decide) (ble rfl) rfl ?_
  refine x_iload_n 1 dX11_nearest_0 rfl rfl ?_
  refine x_if_lt 10 dX11_nearest_1 (by decide) (fun c1 => ?_) (fun c1 => ?_)
  · refine x_bipush (v := -2) dX11_nearest_10 rfl ?_
    refine x_iret rfl dX11_nearest_12 ?_
    first | (show some (Value.int (-2)) = some (Value.int (-2)) ∧ h = h; exact ⟨rfl, rfl⟩)
  · refine x_iload_n 1 dX11_nearest_4 rfl rfl ?_
    refine x_bipush (v := 120) dX11_nearest_5 rfl ?_
    refine x_icmp_le 13 dX11_nearest_7 (by decide) (fun c7 => ?_) (fun c7 => ?_)
    · exfalso
      exact hx.elim c1 (fun z => absurd c7 (Int32.not_le.mpr z))
    · refine x_bipush (v := -2) dX11_nearest_10 rfl ?_
      refine x_iret rfl dX11_nearest_12 ?_
      first | (show some (Value.int (-2)) = some (Value.int (-2)) ∧ h = h; exact ⟨rfl, rfl⟩)
set_option maxRecDepth 100000 in
set_option maxHeartbeats 4000000 in
theorem ct_xmeanSound {l : Launch} {G : Gl} {h : Hp} {N : Nat → Int32} {ns np no : Nat} {isv flt : Int32} (ok : Ok G) (hst : h (Ad G 0) = some (eSt G isv flt)) (H : ShW G h 1000 N ns np no) {f : Nat → Int32} {sz : Nat} (C : ChW G h sz f) (hf : ¬ mrS (lsF N f np) np = 0 → vf_n32 (FP.fdiv (FP.i2f (msS (lsF N f np) np)) (FP.i2f (mrS (lsF N f np) np)))) : CtR l G mX11_meanSound 6 [.ref (Ad G 0)] h (some (.float (meanS (lsF N f np) np))) ((hset (hset h (Ad G 7) (.inr (1, [.ref (Ad G 8), .int (nI np)]))) (Ad G 8) (eI G 16 (lsF N f np)))) := by
  obtain ⟨hsh, has, hap, hao, ⟨gp, hag⟩, hns, hnp, hno, bs, bp, bo, hS, hP, hO, -⟩ := id H
  obtain ⟨h7, h8⟩ := id C
  have C2 : ChW G (hset (hset h (Ad G 7) (.inr (1, [.ref (Ad G 8), .int (nI np)]))) (Ad G 8) (eI G 16 (lsF N f np))) np (lsF N f np) := ⟨hget_n (nA ok (by omega) (by omega) (by omega)) hset_s, hset_s⟩
  obtain ⟨h72, h82⟩ := id C2
  refine Ct.of (L := [(0, _)]) (by decide) (ble rfl) rfl ?_
  first | refine x_aload_n 0 dX11_meanSound_0 rfl rfl ?_ | refine x_aload_nN 0 dX11_meanSound_0 rfl rfl ?_
  refine x_get fX11_42 rfl dX11_meanSound_1 (by with_reducible repeat first | assumption | exact hset_s | refine hget_n (by first | assumption | exact Ne.symm (by assumption) | exact nA ok (by omega) (by omega) (by omega)) ?_) (by rfl) ?_
  first | refine x_aload_n 0 dX11_meanSound_4 rfl rfl ?_ | refine x_aload_nN 0 dX11_meanSound_4 rfl rfl ?_
  refine x_get fX11_20 rfl dX11_meanSound_5 (by with_reducible repeat first | assumption | exact hset_s | refine hget_n (by first | assumption | exact Ne.symm (by assumption) | exact nA ok (by omega) (by omega) (by omega)) ?_) (by rfl) ?_
  refine x_cV0 (As := [.ref _]) (ct_X0_listen ok H C) vX11_167 rfl (x_recv (by with_reducible repeat first | assumption | exact hset_s | refine hget_n (by first | assumption | exact Ne.symm (by assumption) | exact nA ok (by omega) (by omega) (by omega)) ?_) rfl) rfl ⟨ble rfl, ble rfl⟩ (ble rfl) dX11_meanSound_8 rfl ?_
  first | refine x_aload_n 0 dX11_meanSound_11 rfl rfl ?_ | refine x_aload_nN 0 dX11_meanSound_11 rfl rfl ?_
  refine x_get fX11_42 rfl dX11_meanSound_12 (by with_reducible repeat first | assumption | exact hset_s | refine hget_n (by first | assumption | exact Ne.symm (by assumption) | exact nA ok (by omega) (by omega) (by omega)) ?_) (by rfl) ?_
  refine x_cV1 (As := []) (ct_X0_mean C2 (by omega) hf) vX11_264 rfl (x_recv (by with_reducible repeat first | assumption | exact hset_s | refine hget_n (by first | assumption | exact Ne.symm (by assumption) | exact nA ok (by omega) (by omega) (by omega)) ?_) rfl) rfl ⟨ble rfl, ble rfl⟩ (ble rfl) dX11_meanSound_15 rfl ?_
  refine x_fret rfl dX11_meanSound_18 ?_
  show some (Value.float (meanS (lsF N f np) np)) = some (Value.float (meanS (lsF N f np) np)) ∧ (hset (hset h (Ad G 7) (.inr (1, [.ref (Ad G 8), .int (nI np)]))) (Ad G 8) (eI G 16 (lsF N f np))) = (hset (hset h (Ad G 7) (.inr (1, [.ref (Ad G 8), .int (nI np)]))) (Ad G 8) (eI G 16 (lsF N f np)))
  exact ⟨rfl, rfl⟩
set_option maxRecDepth 100000 in
set_option maxHeartbeats 4000000 in
theorem ct_xsoldShare {l : Launch} {G : Gl} {h : Hp} {N : Nat → Int32} {ns np no : Nat} {isv flt : Int32} (ok : Ok G) (hst : h (Ad G 0) = some (eSt G isv flt)) (H : ShW G h 1000 N ns np no) (hf : ¬ N 3 = 0 → vf_n64 (FP.ddiv (FP.i2d (sm (fun i => soldK (N (191 + 5 * i))) no)) (FP.i2d (N 3)))) : CtR l G mX11_soldShare 6 [.ref (Ad G 0)] h (some (.double (if N 3 = 0 then 0 else FP.ddiv (FP.i2d (sm (fun i => soldK (N (191 + 5 * i))) no)) (FP.i2d (N 3))))) (h) := by
  obtain ⟨hsh, has, hap, hao, ⟨gp, hag⟩, hns, hnp, hno, bs, bp, bo, hS, hP, hO, -⟩ := id H
  refine Ct.of (L := [(0, _)]) (by decide) (ble rfl) rfl ?_
  first | refine x_aload_n 0 dX11_soldShare_0 rfl rfl ?_ | refine x_aload_nN 0 dX11_soldShare_0 rfl rfl ?_
  refine x_get fX11_20 rfl dX11_soldShare_1 (by with_reducible repeat first | assumption | exact hset_s | refine hget_n (by first | assumption | exact Ne.symm (by assumption) | exact nA ok (by omega) (by omega) (by omega)) ?_) (by rfl) ?_
  refine x_get fX11_68 rfl dX11_soldShare_4 (by with_reducible repeat first | assumption | exact hset_s | refine hget_n (by first | assumption | exact Ne.symm (by assumption) | exact nA ok (by omega) (by omega) (by omega)) ?_) (by rfl) ?_
  refine x_if_ne 14 dX11_soldShare_7 (by decide) (fun c7 => ?_) (fun c7 => ?_)
  · first | refine x_aload_n 0 dX11_soldShare_14 rfl rfl ?_ | refine x_aload_nN 0 dX11_soldShare_14 rfl rfl ?_
    refine x_get fX11_20 rfl dX11_soldShare_15 (by with_reducible repeat first | assumption | exact hset_s | refine hget_n (by first | assumption | exact Ne.symm (by assumption) | exact nA ok (by omega) (by omega) (by omega)) ?_) (by rfl) ?_
    refine x_cV1 (As := []) (ct_X8_soldPots ok (by omega) H) vX11_268 rfl (x_recv (by with_reducible repeat first | assumption | exact hset_s | refine hget_n (by first | assumption | exact Ne.symm (by assumption) | exact nA ok (by omega) (by omega) (by omega)) ?_) rfl) rfl ⟨ble rfl, ble rfl⟩ (ble rfl) dX11_soldShare_18 rfl ?_
    refine x_i2d dX11_soldShare_21 ?_
    first | refine x_aload_n 0 dX11_soldShare_22 rfl rfl ?_ | refine x_aload_nN 0 dX11_soldShare_22 rfl rfl ?_
    refine x_get fX11_20 rfl dX11_soldShare_23 (by with_reducible repeat first | assumption | exact hset_s | refine hget_n (by first | assumption | exact Ne.symm (by assumption) | exact nA ok (by omega) (by omega) (by omega)) ?_) (by rfl) ?_
    refine x_get fX11_68 rfl dX11_soldShare_26 (by with_reducible repeat first | assumption | exact hset_s | refine hget_n (by first | assumption | exact Ne.symm (by assumption) | exact nA ok (by omega) (by omega) (by omega)) ?_) (by rfl) ?_
    refine x_i2d dX11_soldShare_29 ?_
    refine x_ddiv dX11_soldShare_30 (by exact hf c7) ?_
    refine x_dret rfl dX11_soldShare_31 ?_
    refine ⟨congrArg (fun z => some (Value.double z)) ?_, rfl⟩
    first | exact (if_pos c7).symm | exact (if_neg c7).symm
  · refine x_dconst0 dX11_soldShare_10 ?_
    refine x_goto 31 dX11_soldShare_11 (by decide) ?_
    refine x_dret rfl dX11_soldShare_31 ?_
    refine ⟨congrArg (fun z => some (Value.double z)) ?_, rfl⟩
    first | exact (if_pos c7).symm | exact (if_neg c7).symm
