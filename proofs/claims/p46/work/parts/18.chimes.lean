section CALC6
variable {l : Launch} {G : Gl} {M : MM} {rm : Room} {K : List Frame → Array Value → State → State → Prop} {Q : Option Value → Hp → Prop} {mc ms pc : Nat} {L L' : List (Nat × Value)} {st : List Value} {h : Hp}
theorem x_ialdn {a n i : Nat} {f : Nat → Int32} (hd : decode M.2.1 pc = .ok (.iaload, 1)) (he : h a = some (.inl (G.2.1 0, n, .inl f))) (hi : i < n) (hn : n < 2 ^ 31) (kk : XX l G M rm K mc ms (pc + 1) L (.int (f i) :: st) h) : XX l G M rm K mc ms pc L (.int (nI i) :: .ref a :: st) h :=
  x_iald hd he (vp_in_nI hi hn) (by rw [nI_clamp (by omega)]; exact kk)
theorem x_iastn {a n i : Nat} {f : Nat → Int32} {x : Int32} (hd : decode M.2.1 pc = .ok (.iastore, 1)) (he : h a = some (.inl (G.2.1 0, n, .inl f))) (hi : i < n) (hn : n < 2 ^ 31) (hA : G.2.2.1 a) (kk : XX l G M rm K mc ms (pc + 1) L st (hset h a (.inl (G.2.1 0, n, .inl (upd f i x))))) : XX l G M rm K mc ms pc L (.int x :: .int (nI i) :: .ref a :: st) h :=
  x_iast hd he (vp_in_nI hi hn) hA (by rw [nI_clamp (by omega)]; exact kk)
end CALC6
theorem lsF_0 (N f : Nat → Int32) : lsF N f 0 = f := by funext j; unfold lsF; rw [if_neg (Nat.not_lt_zero j)]
theorem sm2_e (f : Nat → Int32) (z : Int32) : ∀ n, sm2 f z n = z + sm f n
  | 0 => by show z = z + 0; rw [Int32.add_zero]
  | n + 1 => by show sm2 f z n + f n = z + (sm f n + f n); rw [sm2_e f z n, Int32.add_assoc]
set_option maxRecDepth 100000 in
set_option maxHeartbeats 4000000 in
theorem ct_X0_listen {l : Launch} {G : Gl} {h : Hp} {f : Nat → Int32} {sz : Nat} {N : Nat → Int32} {ns np no : Nat} (ok : Ok G) (H : ShW G h 1000 N ns np no) (C : ChW G h sz f) : CtR l G mX0_listen 4 [.ref (Ad G 7), .ref (Ad G 1000)] h (none) (hset (hset h (Ad G 7) (.inr (1, [.ref (Ad G 8), .int (nI np)]))) (Ad G 8) (eI G 16 (lsF N f np))) := by
  obtain ⟨h7, h8⟩ := C
  obtain ⟨hsh, has, hap, hao, ⟨gp, hag⟩, hns, hnp, hno, bs, bp, bo, hS, hP, hO, hS2, hP2, hO2⟩ := H
  refine Ct.of (L := [(0, _), (1, _)]) (by decide) (ble rfl) rfl ?_
  first | refine x_aload_n 0 dX0_listen_0 rfl rfl ?_ | refine x_aload_nN 0 dX0_listen_0 rfl rfl ?_
  first | refine x_aload_n 1 dX0_listen_1 rfl rfl ?_ | refine x_aload_nN 1 dX0_listen_1 rfl rfl ?_
  refine x_get fX0_19 rfl dX0_listen_2 (by with_reducible repeat first | assumption | exact hset_s | refine hget_n (by first | assumption | exact Ne.symm (by assumption) | exact nA (by assumption) (by omega) (by omega) (by omega)) ?_) (by rfl) ?_
  refine x_put fX0_15 rfl rfl rfl rfl dX0_listen_5 (by with_reducible repeat first | assumption | exact hset_s | refine hget_n (by first | assumption | exact Ne.symm (by assumption) | exact nA (by assumption) (by omega) (by omega) (by omega)) ?_) (by exact ble rfl) (by first | assumption | exact aA (by assumption) (by omega)) ?_
  refine x_iconst (v := 0) dX0_listen_8 rfl ?_
  refine x_istore_n (L' := [(2, _), (0, _), (1, _)]) dX0_listen_9 rfl (ble rfl) rfl ?_
  refine x_eqH (h' := hset (hset h (Ad G 7) (.inr (1, [.ref (Ad G 8), .int (nI np)]))) (Ad G 8) (eI G 16 (lsF N f 0))) (by rw [lsF_0, hset_self (hget_n (nA ok (by omega) (by omega) (by omega)) h8), hnp]; rfl) ?_
  refine x_locs (L' := [(2, _), (0, _), (1, _)]) [0, 1, 2] rfl ?_
  refine dn (P := fun i => XX l G mX0_listen (Rm 4 0 0) (KQ G (Rm 4 0 0) (fun w h' => w = none ∧ h' = hset (hset h (Ad G 7) (.inr (1, [.ref (Ad G 8), .int (nI np)]))) (Ad G 8) (eI G 16 (lsF N f np)))) 0 0 10 [(2, .int (nI i)), (0, .ref (Ad G 7)), (1, .ref (Ad G 1000))] [] (hset (hset h (Ad G 7) (.inr (1, [.ref (Ad G 8), .int (nI np)]))) (Ad G 8) (eI G 16 (lsF N f i)))) (n := np) ?_ (fun i hi ihi => ?_)
  · refine x_iload_n 0 dX0_listen_10 rfl rfl ?_
    first | refine x_aload_n 1 dX0_listen_11 rfl rfl ?_ | refine x_aload_nN 1 dX0_listen_11 rfl rfl ?_
    refine x_get fX0_15 rfl dX0_listen_12 (by with_reducible repeat first | assumption | exact hset_s | refine hget_n (by first | assumption | exact Ne.symm (by assumption) | exact nA (by assumption) (by omega) (by omega) (by omega)) ?_) (by rfl) ?_
    refine x_icmp_ge 52 dX0_listen_15 (by decide) (fun _ => ?_) (fun z => by first | exact absurd (Int32.le_refl _) z | exact absurd z (Int32.le_refl _))
    refine x_vret rfl dX0_listen_52 ?_
    exact ⟨rfl, rfl⟩
  · obtain ⟨hk, hp⟩ := hP i hi
    refine x_iload_n 0 dX0_listen_10 rfl rfl ?_
    first | refine x_aload_n 1 dX0_listen_11 rfl rfl ?_ | refine x_aload_nN 1 dX0_listen_11 rfl rfl ?_
    refine x_get fX0_15 rfl dX0_listen_12 (by with_reducible repeat first | assumption | exact hset_s | refine hget_n (by first | assumption | exact Ne.symm (by assumption) | exact nA (by assumption) (by omega) (by omega) (by omega)) ?_) (by rfl) ?_
    refine x_icmp_ge 52 dX0_listen_15 (by decide) (fun z => by first | exact absurd z (nI_ge hi (by omega)) | exact absurd (nI_ge hi (by omega)) z) (fun _ => ?_)
    first | refine x_aload_n 2 dX0_listen_18 rfl rfl ?_ | refine x_aload_nN 2 dX0_listen_18 rfl rfl ?_
    refine x_get fX0_24 rfl dX0_listen_19 (by with_reducible repeat first | assumption | exact hset_s | refine hget_n (by first | assumption | exact Ne.symm (by assumption) | exact nA (by assumption) (by omega) (by omega) (by omega)) ?_) (by rfl) ?_
    refine x_iload_n 0 dX0_listen_22 rfl rfl ?_
    refine x_aald 4 rfl dX0_listen_23 (by with_reducible repeat first | assumption | exact hset_s | refine hget_n (by first | assumption | exact Ne.symm (by assumption) | exact nA (by assumption) (by omega) (by omega) (by omega)) ?_) (vp_in_nI (by omega) (by omega)) (v := .ref (Ad G (1000 + 30 + i))) (by rw [nI_clamp (by omega)]; rfl) ?_
    first | refine x_astore_n (L' := [(3, _), (2, _), (0, _), (1, _)]) dX0_listen_24 rfl (ble rfl) rfl ?_ | refine x_astore_nN (L' := [(3, _), (2, _), (0, _), (1, _)]) dX0_listen_24 rfl (ble rfl) rfl ?_
    first | refine x_aload_n 2 dX0_listen_25 rfl rfl ?_ | refine x_aload_nN 2 dX0_listen_25 rfl rfl ?_
    refine x_get fX0_9 rfl dX0_listen_26 (by with_reducible repeat first | assumption | exact hset_s | refine hget_n (by first | assumption | exact Ne.symm (by assumption) | exact nA (by assumption) (by omega) (by omega) (by omega)) ?_) (by rfl) ?_
    refine x_iload_n 1 dX0_listen_29 rfl rfl ?_
    first | refine x_aload_n 0 dX0_listen_30 rfl rfl ?_ | refine x_aload_nN 0 dX0_listen_30 rfl rfl ?_
    refine x_cV1 (As := []) (ct_X4_isSold (by with_reducible repeat first | assumption | exact hset_s | refine hget_n (by first | assumption | exact Ne.symm (by assumption) | exact nA (by assumption) (by omega) (by omega) (by omega)) ?_)) vX0_28 rfl (x_recv (by with_reducible repeat first | assumption | exact hset_s | refine hget_n (by first | assumption | exact Ne.symm (by assumption) | exact nA (by assumption) (by omega) (by omega) (by omega)) ?_) rfl) rfl ⟨ble rfl, ble rfl⟩ (ble rfl) dX0_listen_31 rfl ?_
    refine x_if_eq 41 dX0_listen_34 (by decide) (fun c34 => ?_) (fun c34 => ?_)
    · first | refine x_aload_n 0 dX0_listen_41 rfl rfl ?_ | refine x_aload_nN 0 dX0_listen_41 rfl rfl ?_
      refine x_cV1 (As := []) (ct_X4_ring (by with_reducible repeat first | assumption | exact hset_s | refine hget_n (by first | assumption | exact Ne.symm (by assumption) | exact nA (by assumption) (by omega) (by omega) (by omega)) ?_) (by assumption)) vX0_34 rfl (x_recv (by with_reducible repeat first | assumption | exact hset_s | refine hget_n (by first | assumption | exact Ne.symm (by assumption) | exact nA (by assumption) (by omega) (by omega) (by omega)) ?_) rfl) rfl ⟨ble rfl, ble rfl⟩ (ble rfl) dX0_listen_42 rfl ?_
      refine x_iastn dX0_listen_45 (by with_reducible repeat first | assumption | exact hset_s | refine hget_n (by first | assumption | exact Ne.symm (by assumption) | exact nA (by assumption) (by omega) (by omega) (by omega)) ?_) (by omega) (by first | decide | omega) (by first | assumption | exact aA (by assumption) (by omega)) ?_
      refine x_iinc (L' := [(2, _), (3, _), (0, _), (1, _)]) (j := 1) (nI (_ + 1)) dX0_listen_46 rfl (nI_1 _) (ble rfl) rfl ?_
      refine x_goto 10 dX0_listen_49 (by decide) ?_
      refine x_locs (L' := [(2, _), (0, _), (1, _)]) [0, 2, 3] rfl ?_
      refine x_eqH ?_ ihi
      rw [hset_2, ← lsF_s]
      unfold sndN
      first | (rw [if_pos (by assumption)]; done) | (rw [if_neg (by assumption)]; done)
    · refine x_iconst (v := -1) dX0_listen_37 rfl ?_
      refine x_goto 45 dX0_listen_38 (by decide) ?_
      refine x_iastn dX0_listen_45 (by with_reducible repeat first | assumption | exact hset_s | refine hget_n (by first | assumption | exact Ne.symm (by assumption) | exact nA (by assumption) (by omega) (by omega) (by omega)) ?_) (by omega) (by first | decide | omega) (by first | assumption | exact aA (by assumption) (by omega)) ?_
      refine x_iinc (L' := [(2, _), (3, _), (0, _), (1, _)]) (j := 1) (nI (_ + 1)) dX0_listen_46 rfl (nI_1 _) (ble rfl) rfl ?_
      refine x_goto 10 dX0_listen_49 (by decide) ?_
      refine x_locs (L' := [(2, _), (0, _), (1, _)]) [0, 2, 3] rfl ?_
      refine x_eqH ?_ ihi
      rw [hset_2, ← lsF_s]
      unfold sndN
      first | (rw [if_pos (by assumption)]; done) | (rw [if_neg (by assumption)]; done)
set_option maxRecDepth 100000 in
set_option maxHeartbeats 4000000 in
theorem ct_X0_pairs {l : Launch} {G : Gl} {h : Hp} {sz : Nat} {f : Nat → Int32} (H : ChW G h sz f) (hz : sz ≤ 16) : CtR l G mX0_pairs 3 [.ref (Ad G 7)] h (some (.int (sm (fun i => sm (prI f i) i) sz))) (h) := by
  obtain ⟨h7, h8⟩ := H
  refine Ct.of (L := [(0, _)]) (by decide) (ble rfl) rfl ?_
  refine x_iconst (v := 0) dX0_pairs_0 rfl ?_
  refine x_istore_n (L' := [(1, _), (0, _)]) dX0_pairs_1 rfl (ble rfl) rfl ?_
  refine x_iconst (v := 0) dX0_pairs_2 rfl ?_
  refine x_istore_n (L' := [(2, _), (1, _), (0, _)]) dX0_pairs_3 rfl (ble rfl) rfl ?_
  refine x_locs (L' := [(2, _), (1, _), (0, _)]) [0, 1, 2] rfl ?_
  refine dn (P := fun i => XX l G mX0_pairs (Rm 3 0 0) (KQ G (Rm 3 0 0) (fun w h' => w = some (.int (sm (fun i => sm (prI f i) i) sz)) ∧ h' = h)) 0 0 4 [(2, .int (nI i)), (1, .int (sm (fun i => sm (prI f i) i) i)), (0, .ref (Ad G 7))] [] h) (n := sz) ?_ (fun i hi ihi => ?_)
  · refine x_iload_n 0 dX0_pairs_4 rfl rfl ?_
    first | refine x_aload_n 2 dX0_pairs_5 rfl rfl ?_ | refine x_aload_nN 2 dX0_pairs_5 rfl rfl ?_
    refine x_get fX0_15 rfl dX0_pairs_6 (by with_reducible repeat first | assumption | exact hset_s | refine hget_n (by first | assumption | exact Ne.symm (by assumption) | exact nA (by assumption) (by omega) (by omega) (by omega)) ?_) (by rfl) ?_
    refine x_icmp_ge 70 dX0_pairs_9 (by decide) (fun _ => ?_) (fun z => by first | exact absurd (Int32.le_refl _) z | exact absurd z (Int32.le_refl _))
    refine x_iload_n 1 dX0_pairs_70 rfl rfl ?_
    refine x_iret rfl dX0_pairs_71 ?_
    exact ⟨rfl, rfl⟩
  · refine x_iload_n 0 dX0_pairs_4 rfl rfl ?_
    first | refine x_aload_n 2 dX0_pairs_5 rfl rfl ?_ | refine x_aload_nN 2 dX0_pairs_5 rfl rfl ?_
    refine x_get fX0_15 rfl dX0_pairs_6 (by with_reducible repeat first | assumption | exact hset_s | refine hget_n (by first | assumption | exact Ne.symm (by assumption) | exact nA (by assumption) (by omega) (by omega) (by omega)) ?_) (by rfl) ?_
    refine x_icmp_ge 70 dX0_pairs_9 (by decide) (fun z => by first | exact absurd z (nI_ge hi (by omega)) | exact absurd (nI_ge hi (by omega)) z) (fun _ => ?_)
    refine x_iconst (v := 0) dX0_pairs_12 rfl ?_
    refine x_istore_n (L' := [(3, _), (2, _), (1, _), (0, _)]) dX0_pairs_13 rfl (ble rfl) rfl ?_
    refine x_locs (L' := [(3, _), (1, _), (0, _), (2, _)]) [0, 2, 3, 1] rfl ?_
    refine dn (P := fun j => XX l G mX0_pairs (Rm 3 0 0) (KQ G (Rm 3 0 0) (fun w h' => w = some (.int (sm (fun i => sm (prI f i) i) sz)) ∧ h' = h)) 0 0 14 [(3, .int (nI j)), (1, .int (sm2 (prI f i) (sm (fun i => sm (prI f i) i) i) j)), (0, .ref (Ad G 7)), (2, .int (nI i))] [] h) (n := i) ?_ (fun j hj ihj => ?_)
    · refine x_iload_n 0 dX0_pairs_14 rfl rfl ?_
      refine x_iload_n 3 dX0_pairs_15 rfl rfl ?_
      refine x_icmp_ge 64 dX0_pairs_16 (by decide) (fun _ => ?_) (fun z => by first | exact absurd (Int32.le_refl _) z | exact absurd z (Int32.le_refl _))
      refine x_iinc (L' := [(2, _), (3, _), (1, _), (0, _)]) (j := 3) (nI (_ + 1)) dX0_pairs_64 rfl (nI_1 _) (ble rfl) rfl ?_
      refine x_goto 4 dX0_pairs_67 (by decide) ?_
      refine x_locs (L' := [(2, _), (1, _), (0, _)]) [0, 2, 3] rfl ?_
      refine x_eqL ?_ ihi
      rw [sm2_e]
      rfl
    · refine x_iload_n 0 dX0_pairs_14 rfl rfl ?_
      refine x_iload_n 3 dX0_pairs_15 rfl rfl ?_
      refine x_icmp_ge 64 dX0_pairs_16 (by decide) (fun z => by first | exact absurd z (nI_ge hj (by omega)) | exact absurd (nI_ge hj (by omega)) z) (fun _ => ?_)
      first | refine x_aload_n 2 dX0_pairs_19 rfl rfl ?_ | refine x_aload_nN 2 dX0_pairs_19 rfl rfl ?_
      refine x_get fX0_9 rfl dX0_pairs_20 (by with_reducible repeat first | assumption | exact hset_s | refine hget_n (by first | assumption | exact Ne.symm (by assumption) | exact nA (by assumption) (by omega) (by omega) (by omega)) ?_) (by rfl) ?_
      refine x_iload_n 3 dX0_pairs_23 rfl rfl ?_
      refine x_ialdn dX0_pairs_24 (by with_reducible repeat first | assumption | exact hset_s | refine hget_n (by first | assumption | exact Ne.symm (by assumption) | exact nA (by assumption) (by omega) (by omega) (by omega)) ?_) (by omega) (by first | decide | omega) ?_
      refine x_if_lt 58 dX0_pairs_25 (by decide) (fun c25 => ?_) (fun c25 => ?_)
      · refine x_iinc (L' := [(3, _), (1, _), (0, _), (2, _)]) (j := 0) (nI (_ + 1)) dX0_pairs_58 rfl (nI_1 _) (ble rfl) rfl ?_
        refine x_goto 14 dX0_pairs_61 (by decide) ?_
        refine x_locs (L' := [(3, _), (1, _), (0, _), (2, _)]) [0, 1, 2, 3] rfl ?_
        refine x_eqL ?_ ihj
        rw [sm2]
        first | (rw [show prI f i j = 1 from if_pos ⟨Int32.not_lt.mp c25, Int32.not_lt.mp c34, c52⟩]; done) | (rw [show prI f i j = 0 by unfold prI; refine if_neg (fun q => ?_); first | exact absurd c25 (Int32.not_lt.mpr q.1) | exact absurd c34 (Int32.not_lt.mpr q.2.1) | exact q.2.2 c52, Int32.add_zero]; done)
      · first | refine x_aload_n 2 dX0_pairs_28 rfl rfl ?_ | refine x_aload_nN 2 dX0_pairs_28 rfl rfl ?_
        refine x_get fX0_9 rfl dX0_pairs_29 (by with_reducible repeat first | assumption | exact hset_s | refine hget_n (by first | assumption | exact Ne.symm (by assumption) | exact nA (by assumption) (by omega) (by omega) (by omega)) ?_) (by rfl) ?_
        refine x_iload_n 0 dX0_pairs_32 rfl rfl ?_
        refine x_ialdn dX0_pairs_33 (by with_reducible repeat first | assumption | exact hset_s | refine hget_n (by first | assumption | exact Ne.symm (by assumption) | exact nA (by assumption) (by omega) (by omega) (by omega)) ?_) (by omega) (by first | decide | omega) ?_
        refine x_if_lt 58 dX0_pairs_34 (by decide) (fun c34 => ?_) (fun c34 => ?_)
        · refine x_iinc (L' := [(3, _), (1, _), (0, _), (2, _)]) (j := 0) (nI (_ + 1)) dX0_pairs_58 rfl (nI_1 _) (ble rfl) rfl ?_
          refine x_goto 14 dX0_pairs_61 (by decide) ?_
          refine x_locs (L' := [(3, _), (1, _), (0, _), (2, _)]) [0, 1, 2, 3] rfl ?_
          refine x_eqL ?_ ihj
          rw [sm2]
          first | (rw [show prI f i j = 1 from if_pos ⟨Int32.not_lt.mp c25, Int32.not_lt.mp c34, c52⟩]; done) | (rw [show prI f i j = 0 by unfold prI; refine if_neg (fun q => ?_); first | exact absurd c25 (Int32.not_lt.mpr q.1) | exact absurd c34 (Int32.not_lt.mpr q.2.1) | exact q.2.2 c52, Int32.add_zero]; done)
        · first | refine x_aload_n 2 dX0_pairs_37 rfl rfl ?_ | refine x_aload_nN 2 dX0_pairs_37 rfl rfl ?_
          refine x_get fX0_9 rfl dX0_pairs_38 (by with_reducible repeat first | assumption | exact hset_s | refine hget_n (by first | assumption | exact Ne.symm (by assumption) | exact nA (by assumption) (by omega) (by omega) (by omega)) ?_) (by rfl) ?_
          refine x_iload_n 3 dX0_pairs_41 rfl rfl ?_
          refine x_ialdn dX0_pairs_42 (by with_reducible repeat first | assumption | exact hset_s | refine hget_n (by first | assumption | exact Ne.symm (by assumption) | exact nA (by assumption) (by omega) (by omega) (by omega)) ?_) (by omega) (by first | decide | omega) ?_
          first | refine x_aload_n 2 dX0_pairs_43 rfl rfl ?_ | refine x_aload_nN 2 dX0_pairs_43 rfl rfl ?_
          refine x_get fX0_9 rfl dX0_pairs_44 (by with_reducible repeat first | assumption | exact hset_s | refine hget_n (by first | assumption | exact Ne.symm (by assumption) | exact nA (by assumption) (by omega) (by omega) (by omega)) ?_) (by rfl) ?_
          refine x_iload_n 0 dX0_pairs_47 rfl rfl ?_
          refine x_ialdn dX0_pairs_48 (by with_reducible repeat first | assumption | exact hset_s | refine hget_n (by first | assumption | exact Ne.symm (by assumption) | exact nA (by assumption) (by omega) (by omega) (by omega)) ?_) (by omega) (by first | decide | omega) ?_
          refine x_cSN1 (As := [.int _, .int _]) (ct_X11_ringAlike _ _) vX0_38 rfl rfl ⟨ble rfl, ble rfl⟩ (ble rfl) dX0_pairs_49 rfl ?_
          refine x_if_eq 58 dX0_pairs_52 (by decide) (fun c52 => ?_) (fun c52 => ?_)
          · refine x_iinc (L' := [(3, _), (1, _), (0, _), (2, _)]) (j := 0) (nI (_ + 1)) dX0_pairs_58 rfl (nI_1 _) (ble rfl) rfl ?_
            refine x_goto 14 dX0_pairs_61 (by decide) ?_
            refine x_locs (L' := [(3, _), (1, _), (0, _), (2, _)]) [0, 1, 2, 3] rfl ?_
            refine x_eqL ?_ ihj
            rw [sm2]
            first | (rw [show prI f i j = 1 from if_pos ⟨Int32.not_lt.mp c25, Int32.not_lt.mp c34, c52⟩]; done) | (rw [show prI f i j = 0 by unfold prI; refine if_neg (fun q => ?_); first | exact absurd c25 (Int32.not_lt.mpr q.1) | exact absurd c34 (Int32.not_lt.mpr q.2.1) | exact q.2.2 c52, Int32.add_zero]; done)
          · refine x_iinc (L' := [(1, _), (3, _), (0, _), (2, _)]) (j := 1) (_ + 1) dX0_pairs_55 rfl rfl (ble rfl) rfl ?_
            refine x_iinc (L' := [(3, _), (1, _), (0, _), (2, _)]) (j := 1) (nI (_ + 1)) dX0_pairs_58 rfl (nI_1 _) (ble rfl) rfl ?_
            refine x_goto 14 dX0_pairs_61 (by decide) ?_
            refine x_locs (L' := [(3, _), (1, _), (0, _), (2, _)]) [0, 1, 2, 3] rfl ?_
            refine x_eqL ?_ ihj
            rw [sm2]
            first | (rw [show prI f i j = 1 from if_pos ⟨Int32.not_lt.mp c25, Int32.not_lt.mp c34, c52⟩]; done) | (rw [show prI f i j = 0 by unfold prI; refine if_neg (fun q => ?_); first | exact absurd c25 (Int32.not_lt.mpr q.1) | exact absurd c34 (Int32.not_lt.mpr q.2.1) | exact q.2.2 c52, Int32.add_zero]; done)
set_option maxRecDepth 100000 in
set_option maxHeartbeats 4000000 in
theorem ct_X0_aheadOf {l : Launch} {G : Gl} {h : Hp} {sz : Nat} {f : Nat → Int32} (H : ChW G h sz f) (hz : sz ≤ 16) {p : Nat} (hp : p < 16) : CtR l G mX0_aheadOf 1 [.ref (Ad G 7), .int (nI p)] h (some (.int (sm (ahI f p) sz))) (h) := by
  obtain ⟨h7, h8⟩ := H
  refine Ct.of (L := [(0, _), (1, _)]) (by decide) (ble rfl) rfl ?_
  refine x_iconst (v := 0) dX0_aheadOf_0 rfl ?_
  refine x_istore_n (L' := [(2, _), (0, _), (1, _)]) dX0_aheadOf_1 rfl (ble rfl) rfl ?_
  refine x_iconst (v := 0) dX0_aheadOf_2 rfl ?_
  refine x_istore_n (L' := [(3, _), (2, _), (0, _), (1, _)]) dX0_aheadOf_3 rfl (ble rfl) rfl ?_
  refine x_locs (L' := [(3, _), (2, _), (0, _), (1, _)]) [0, 1, 2, 3] rfl ?_
  refine dn (P := fun i => XX l G mX0_aheadOf (Rm 1 0 0) (KQ G (Rm 1 0 0) (fun w h' => w = some (.int (sm (ahI f p) sz)) ∧ h' = h)) 0 0 4 [(3, .int (nI i)), (2, .int (sm (ahI f p) i)), (0, .ref (Ad G 7)), (1, .int (nI p))] [] h) (n := sz) ?_ (fun i hi ihi => ?_)
  · refine x_iload_n 0 dX0_aheadOf_4 rfl rfl ?_
    first | refine x_aload_n 2 dX0_aheadOf_5 rfl rfl ?_ | refine x_aload_nN 2 dX0_aheadOf_5 rfl rfl ?_
    refine x_get fX0_15 rfl dX0_aheadOf_6 (by with_reducible repeat first | assumption | exact hset_s | refine hget_n (by first | assumption | exact Ne.symm (by assumption) | exact nA (by assumption) (by omega) (by omega) (by omega)) ?_) (by rfl) ?_
    refine x_icmp_ge 56 dX0_aheadOf_9 (by decide) (fun _ => ?_) (fun z => by first | exact absurd (Int32.le_refl _) z | exact absurd z (Int32.le_refl _))
    refine x_iload_n 1 dX0_aheadOf_56 rfl rfl ?_
    refine x_iret rfl dX0_aheadOf_57 ?_
    exact ⟨rfl, rfl⟩
  · refine x_iload_n 0 dX0_aheadOf_4 rfl rfl ?_
    first | refine x_aload_n 2 dX0_aheadOf_5 rfl rfl ?_ | refine x_aload_nN 2 dX0_aheadOf_5 rfl rfl ?_
    refine x_get fX0_15 rfl dX0_aheadOf_6 (by with_reducible repeat first | assumption | exact hset_s | refine hget_n (by first | assumption | exact Ne.symm (by assumption) | exact nA (by assumption) (by omega) (by omega) (by omega)) ?_) (by rfl) ?_
    refine x_icmp_ge 56 dX0_aheadOf_9 (by decide) (fun z => by first | exact absurd z (nI_ge hi (by omega)) | exact absurd (nI_ge hi (by omega)) z) (fun _ => ?_)
    first | refine x_aload_n 2 dX0_aheadOf_12 rfl rfl ?_ | refine x_aload_nN 2 dX0_aheadOf_12 rfl rfl ?_
    refine x_get fX0_9 rfl dX0_aheadOf_13 (by with_reducible repeat first | assumption | exact hset_s | refine hget_n (by first | assumption | exact Ne.symm (by assumption) | exact nA (by assumption) (by omega) (by omega) (by omega)) ?_) (by rfl) ?_
    refine x_iload_n 0 dX0_aheadOf_16 rfl rfl ?_
    refine x_ialdn dX0_aheadOf_17 (by with_reducible repeat first | assumption | exact hset_s | refine hget_n (by first | assumption | exact Ne.symm (by assumption) | exact nA (by assumption) (by omega) (by omega) (by omega)) ?_) (by omega) (by first | decide | omega) ?_
    first | refine x_aload_n 2 dX0_aheadOf_18 rfl rfl ?_ | refine x_aload_nN 2 dX0_aheadOf_18 rfl rfl ?_
    refine x_get fX0_9 rfl dX0_aheadOf_19 (by with_reducible repeat first | assumption | exact hset_s | refine hget_n (by first | assumption | exact Ne.symm (by assumption) | exact nA (by assumption) (by omega) (by omega) (by omega)) ?_) (by rfl) ?_
    refine x_iload_n 3 dX0_aheadOf_22 rfl rfl ?_
    refine x_ialdn dX0_aheadOf_23 (by with_reducible repeat first | assumption | exact hset_s | refine hget_n (by first | assumption | exact Ne.symm (by assumption) | exact nA (by assumption) (by omega) (by omega) (by omega)) ?_) (by omega) (by first | decide | omega) ?_
    refine x_icmp_gt 47 dX0_aheadOf_24 (by decide) (fun c24 => ?_) (fun c24 => ?_)
    · refine x_iinc (L' := [(2, _), (3, _), (0, _), (1, _)]) (j := 1) (_ + 1) dX0_aheadOf_47 rfl rfl (ble rfl) rfl ?_
      refine x_iinc (L' := [(3, _), (2, _), (0, _), (1, _)]) (j := 1) (nI (_ + 1)) dX0_aheadOf_50 rfl (nI_1 _) (ble rfl) rfl ?_
      refine x_goto 4 dX0_aheadOf_53 (by decide) ?_
      refine x_locs (L' := [(3, _), (2, _), (0, _), (1, _)]) [0, 1, 2, 3] rfl ?_
      refine x_eqL ?_ ihi
      rw [sm]
      first | (rw [show ahI f p i = 1 by unfold ahI; refine if_pos ?_; (simp only [Int32.lt_iff_toInt_lt, Int32.le_iff_toInt_le, ← Int32.toInt_inj, Int32.toInt_zero] at *; omega)]; done) | (rw [show ahI f p i = 0 by unfold ahI; refine if_neg ?_; (simp only [Int32.lt_iff_toInt_lt, Int32.le_iff_toInt_le, ← Int32.toInt_inj, Int32.toInt_zero] at *; omega), Int32.add_zero]; done)
    · first | refine x_aload_n 2 dX0_aheadOf_27 rfl rfl ?_ | refine x_aload_nN 2 dX0_aheadOf_27 rfl rfl ?_
      refine x_get fX0_9 rfl dX0_aheadOf_28 (by with_reducible repeat first | assumption | exact hset_s | refine hget_n (by first | assumption | exact Ne.symm (by assumption) | exact nA (by assumption) (by omega) (by omega) (by omega)) ?_) (by rfl) ?_
      refine x_iload_n 0 dX0_aheadOf_31 rfl rfl ?_
      refine x_ialdn dX0_aheadOf_32 (by with_reducible repeat first | assumption | exact hset_s | refine hget_n (by first | assumption | exact Ne.symm (by assumption) | exact nA (by assumption) (by omega) (by omega) (by omega)) ?_) (by omega) (by first | decide | omega) ?_
      first | refine x_aload_n 2 dX0_aheadOf_33 rfl rfl ?_ | refine x_aload_nN 2 dX0_aheadOf_33 rfl rfl ?_
      refine x_get fX0_9 rfl dX0_aheadOf_34 (by with_reducible repeat first | assumption | exact hset_s | refine hget_n (by first | assumption | exact Ne.symm (by assumption) | exact nA (by assumption) (by omega) (by omega) (by omega)) ?_) (by rfl) ?_
      refine x_iload_n 3 dX0_aheadOf_37 rfl rfl ?_
      refine x_ialdn dX0_aheadOf_38 (by with_reducible repeat first | assumption | exact hset_s | refine hget_n (by first | assumption | exact Ne.symm (by assumption) | exact nA (by assumption) (by omega) (by omega) (by omega)) ?_) (by omega) (by first | decide | omega) ?_
      refine x_icmp_ne 50 dX0_aheadOf_39 (by decide) (fun c39 => ?_) (fun c39 => ?_)
      · refine x_iinc (L' := [(3, _), (2, _), (0, _), (1, _)]) (j := 0) (nI (_ + 1)) dX0_aheadOf_50 rfl (nI_1 _) (ble rfl) rfl ?_
        refine x_goto 4 dX0_aheadOf_53 (by decide) ?_
        refine x_locs (L' := [(3, _), (2, _), (0, _), (1, _)]) [0, 1, 2, 3] rfl ?_
        refine x_eqL ?_ ihi
        rw [sm]
        first | (rw [show ahI f p i = 1 by unfold ahI; refine if_pos ?_; (simp only [Int32.lt_iff_toInt_lt, Int32.le_iff_toInt_le, ← Int32.toInt_inj, Int32.toInt_zero] at *; omega)]; done) | (rw [show ahI f p i = 0 by unfold ahI; refine if_neg ?_; (simp only [Int32.lt_iff_toInt_lt, Int32.le_iff_toInt_le, ← Int32.toInt_inj, Int32.toInt_zero] at *; omega), Int32.add_zero]; done)
      · refine x_iload_n 0 dX0_aheadOf_42 rfl rfl ?_
        refine x_iload_n 3 dX0_aheadOf_43 rfl rfl ?_
        refine x_icmp_ge 50 dX0_aheadOf_44 (by decide) (fun c44 => ?_) (fun c44 => ?_)
        · refine x_iinc (L' := [(3, _), (2, _), (0, _), (1, _)]) (j := 0) (nI (_ + 1)) dX0_aheadOf_50 rfl (nI_1 _) (ble rfl) rfl ?_
          refine x_goto 4 dX0_aheadOf_53 (by decide) ?_
          refine x_locs (L' := [(3, _), (2, _), (0, _), (1, _)]) [0, 1, 2, 3] rfl ?_
          refine x_eqL ?_ ihi
          rw [sm]
          first | (rw [show ahI f p i = 1 by unfold ahI; refine if_pos ?_; (simp only [Int32.lt_iff_toInt_lt, Int32.le_iff_toInt_le, ← Int32.toInt_inj, Int32.toInt_zero] at *; omega)]; done) | (rw [show ahI f p i = 0 by unfold ahI; refine if_neg ?_; (simp only [Int32.lt_iff_toInt_lt, Int32.le_iff_toInt_le, ← Int32.toInt_inj, Int32.toInt_zero] at *; omega), Int32.add_zero]; done)
        · refine x_iinc (L' := [(2, _), (3, _), (0, _), (1, _)]) (j := 1) (_ + 1) dX0_aheadOf_47 rfl rfl (ble rfl) rfl ?_
          refine x_iinc (L' := [(3, _), (2, _), (0, _), (1, _)]) (j := 1) (nI (_ + 1)) dX0_aheadOf_50 rfl (nI_1 _) (ble rfl) rfl ?_
          refine x_goto 4 dX0_aheadOf_53 (by decide) ?_
          refine x_locs (L' := [(3, _), (2, _), (0, _), (1, _)]) [0, 1, 2, 3] rfl ?_
          refine x_eqL ?_ ihi
          rw [sm]
          first | (rw [show ahI f p i = 1 by unfold ahI; refine if_pos ?_; (simp only [Int32.lt_iff_toInt_lt, Int32.le_iff_toInt_le, ← Int32.toInt_inj, Int32.toInt_zero] at *; omega)]; done) | (rw [show ahI f p i = 0 by unfold ahI; refine if_neg ?_; (simp only [Int32.lt_iff_toInt_lt, Int32.le_iff_toInt_le, ← Int32.toInt_inj, Int32.toInt_zero] at *; omega), Int32.add_zero]; done)
def plS (f : Nat → Int32) (n : Nat) (x : Int32) : Int32 := lowD (-1) (fun i => decide (¬ f i < 0) && decide (sm (ahI f i) n = x)) n n
set_option maxRecDepth 100000 in
set_option maxHeartbeats 4000000 in
theorem ct_X0_atPlace {l : Launch} {G : Gl} {h : Hp} {sz : Nat} {f : Nat → Int32} (H : ChW G h sz f) (hz : sz ≤ 16) (x : Int32) : CtR l G mX0_atPlace 2 [.ref (Ad G 7), .int x] h (some (.int (plS f sz x))) (h) := by
  obtain ⟨h7, h8⟩ := H
  refine Ct.of (L := [(0, _), (1, _)]) (by decide) (ble rfl) rfl ?_
  refine x_iconst (v := 0) dX0_atPlace_0 rfl ?_
  refine x_istore_n (L' := [(2, _), (0, _), (1, _)]) dX0_atPlace_1 rfl (ble rfl) rfl ?_
  refine x_locs (L' := [(2, _), (0, _), (1, _)]) [0, 1, 2] rfl ?_
  refine dn (P := fun i => lowD (-1) (fun i => decide (¬ f i < 0) && decide (sm (ahI f i) sz = x)) sz (sz - i) = plS f sz x → XX l G mX0_atPlace (Rm 2 0 0) (KQ G (Rm 2 0 0) (fun w h' => w = some (.int (plS f sz x)) ∧ h' = h)) 0 0 2 [(2, .int (nI i)), (0, .ref (Ad G 7)), (1, .int x)] [] h) (n := sz) ?_ (fun i hi ihi => ?_) rfl
  · intro he
    refine x_iload_n 0 dX0_atPlace_2 rfl rfl ?_
    first | refine x_aload_n 1 dX0_atPlace_3 rfl rfl ?_ | refine x_aload_nN 1 dX0_atPlace_3 rfl rfl ?_
    refine x_get fX0_15 rfl dX0_atPlace_4 (by with_reducible repeat first | assumption | exact hset_s | refine hget_n (by first | assumption | exact Ne.symm (by assumption) | exact nA (by assumption) (by omega) (by omega) (by omega)) ?_) (by rfl) ?_
    refine x_icmp_ge 36 dX0_atPlace_7 (by decide) (fun _ => ?_) (fun z => by first | exact absurd (Int32.le_refl _) z | exact absurd z (Int32.le_refl _))
    refine x_iconst (v := -1) dX0_atPlace_36 rfl ?_
    refine x_iret rfl dX0_atPlace_37 ?_
    refine ⟨congrArg (fun z => some (Value.int z)) ?_, rfl⟩
    first | (rw [lowD_at hi, if_pos (by simp_all)] at he; exact he) | (rw [Nat.sub_self] at he; exact he)
  · intro he
    refine x_iload_n 0 dX0_atPlace_2 rfl rfl ?_
    first | refine x_aload_n 1 dX0_atPlace_3 rfl rfl ?_ | refine x_aload_nN 1 dX0_atPlace_3 rfl rfl ?_
    refine x_get fX0_15 rfl dX0_atPlace_4 (by with_reducible repeat first | assumption | exact hset_s | refine hget_n (by first | assumption | exact Ne.symm (by assumption) | exact nA (by assumption) (by omega) (by omega) (by omega)) ?_) (by rfl) ?_
    refine x_icmp_ge 36 dX0_atPlace_7 (by decide) (fun z => by first | exact absurd z (nI_ge hi (by omega)) | exact absurd (nI_ge hi (by omega)) z) (fun _ => ?_)
    first | refine x_aload_n 1 dX0_atPlace_10 rfl rfl ?_ | refine x_aload_nN 1 dX0_atPlace_10 rfl rfl ?_
    refine x_get fX0_9 rfl dX0_atPlace_11 (by with_reducible repeat first | assumption | exact hset_s | refine hget_n (by first | assumption | exact Ne.symm (by assumption) | exact nA (by assumption) (by omega) (by omega) (by omega)) ?_) (by rfl) ?_
    refine x_iload_n 0 dX0_atPlace_14 rfl rfl ?_
    refine x_ialdn dX0_atPlace_15 (by with_reducible repeat first | assumption | exact hset_s | refine hget_n (by first | assumption | exact Ne.symm (by assumption) | exact nA (by assumption) (by omega) (by omega) (by omega)) ?_) (by omega) (by first | decide | omega) ?_
    refine x_if_lt 30 dX0_atPlace_16 (by decide) (fun c16 => ?_) (fun c16 => ?_)
    · refine x_iinc (L' := [(2, _), (0, _), (1, _)]) (j := 0) (nI (_ + 1)) dX0_atPlace_30 rfl (nI_1 _) (ble rfl) rfl ?_
      refine x_goto 2 dX0_atPlace_33 (by decide) ?_
      refine x_locs (L' := [(2, _), (0, _), (1, _)]) [0, 1, 2] rfl ?_
      refine ihi ?_
      rw [lowD_at hi, if_neg (by simp_all)] at he
      exact he
    · first | refine x_aload_n 1 dX0_atPlace_19 rfl rfl ?_ | refine x_aload_nN 1 dX0_atPlace_19 rfl rfl ?_
      refine x_iload_n 0 dX0_atPlace_20 rfl rfl ?_
      refine x_cV1 (As := [.int _]) (ct_X0_aheadOf ⟨h7, h8⟩ (by assumption) (by omega)) vX0_42 rfl (x_recv (by with_reducible repeat first | assumption | exact hset_s | refine hget_n (by first | assumption | exact Ne.symm (by assumption) | exact nA (by assumption) (by omega) (by omega) (by omega)) ?_) rfl) rfl ⟨ble rfl, ble rfl⟩ (ble rfl) dX0_atPlace_21 rfl ?_
      refine x_iload_n 2 dX0_atPlace_24 rfl rfl ?_
      refine x_icmp_ne 30 dX0_atPlace_25 (by decide) (fun c25 => ?_) (fun c25 => ?_)
      · refine x_iinc (L' := [(2, _), (0, _), (1, _)]) (j := 0) (nI (_ + 1)) dX0_atPlace_30 rfl (nI_1 _) (ble rfl) rfl ?_
        refine x_goto 2 dX0_atPlace_33 (by decide) ?_
        refine x_locs (L' := [(2, _), (0, _), (1, _)]) [0, 1, 2] rfl ?_
        refine ihi ?_
        rw [lowD_at hi, if_neg (by simp_all)] at he
        exact he
      · refine x_iload_n 0 dX0_atPlace_28 rfl rfl ?_
        refine x_iret rfl dX0_atPlace_29 ?_
        refine ⟨congrArg (fun z => some (Value.int z)) ?_, rfl⟩
        first | (rw [lowD_at hi, if_pos (by simp_all)] at he; exact he) | (rw [Nat.sub_self] at he; exact he)
set_option maxRecDepth 100000 in
set_option maxHeartbeats 4000000 in
theorem ct_X0_lowestAbove {l : Launch} {G : Gl} {h : Hp} {sz : Nat} {f : Nat → Int32} (H : ChW G h sz f) (hz : sz ≤ 16) (x : Int32) : CtR l G mX0_lowestAbove 1 [.ref (Ad G 7), .int x] h (some (.int (laS f x sz))) (h) := by
  obtain ⟨h7, h8⟩ := H
  refine Ct.of (L := [(0, _), (1, _)]) (by decide) (ble rfl) rfl ?_
  refine x_iconst (v := -1) dX0_lowestAbove_0 rfl ?_
  refine x_istore_n (L' := [(2, _), (0, _), (1, _)]) dX0_lowestAbove_1 rfl (ble rfl) rfl ?_
  refine x_iconst (v := 0) dX0_lowestAbove_2 rfl ?_
  refine x_istore_n (L' := [(3, _), (2, _), (0, _), (1, _)]) dX0_lowestAbove_3 rfl (ble rfl) rfl ?_
  refine x_locs (L' := [(3, _), (2, _), (0, _), (1, _)]) [0, 1, 2, 3] rfl ?_
  refine dn (P := fun i => XX l G mX0_lowestAbove (Rm 1 0 0) (KQ G (Rm 1 0 0) (fun w h' => w = some (.int (laS f x sz)) ∧ h' = h)) 0 0 4 [(3, .int (nI i)), (2, .int (laS f x i)), (0, .ref (Ad G 7)), (1, .int x)] [] h) (n := sz) ?_ (fun i hi ihi => ?_)
  · refine x_iload_n 0 dX0_lowestAbove_4 rfl rfl ?_
    first | refine x_aload_n 2 dX0_lowestAbove_5 rfl rfl ?_ | refine x_aload_nN 2 dX0_lowestAbove_5 rfl rfl ?_
    refine x_get fX0_15 rfl dX0_lowestAbove_6 (by with_reducible repeat first | assumption | exact hset_s | refine hget_n (by first | assumption | exact Ne.symm (by assumption) | exact nA (by assumption) (by omega) (by omega) (by omega)) ?_) (by rfl) ?_
    refine x_icmp_ge 50 dX0_lowestAbove_9 (by decide) (fun _ => ?_) (fun z => by first | exact absurd (Int32.le_refl _) z | exact absurd z (Int32.le_refl _))
    refine x_iload_n 1 dX0_lowestAbove_50 rfl rfl ?_
    refine x_iret rfl dX0_lowestAbove_51 ?_
    exact ⟨rfl, rfl⟩
  · refine x_iload_n 0 dX0_lowestAbove_4 rfl rfl ?_
    first | refine x_aload_n 2 dX0_lowestAbove_5 rfl rfl ?_ | refine x_aload_nN 2 dX0_lowestAbove_5 rfl rfl ?_
    refine x_get fX0_15 rfl dX0_lowestAbove_6 (by with_reducible repeat first | assumption | exact hset_s | refine hget_n (by first | assumption | exact Ne.symm (by assumption) | exact nA (by assumption) (by omega) (by omega) (by omega)) ?_) (by rfl) ?_
    refine x_icmp_ge 50 dX0_lowestAbove_9 (by decide) (fun z => by first | exact absurd z (nI_ge hi (by omega)) | exact absurd (nI_ge hi (by omega)) z) (fun _ => ?_)
    first | refine x_aload_n 2 dX0_lowestAbove_12 rfl rfl ?_ | refine x_aload_nN 2 dX0_lowestAbove_12 rfl rfl ?_
    refine x_get fX0_9 rfl dX0_lowestAbove_13 (by with_reducible repeat first | assumption | exact hset_s | refine hget_n (by first | assumption | exact Ne.symm (by assumption) | exact nA (by assumption) (by omega) (by omega) (by omega)) ?_) (by rfl) ?_
    refine x_iload_n 0 dX0_lowestAbove_16 rfl rfl ?_
    refine x_ialdn dX0_lowestAbove_17 (by with_reducible repeat first | assumption | exact hset_s | refine hget_n (by first | assumption | exact Ne.symm (by assumption) | exact nA (by assumption) (by omega) (by omega) (by omega)) ?_) (by omega) (by first | decide | omega) ?_
    refine x_iload_n 3 dX0_lowestAbove_18 rfl rfl ?_
    refine x_icmp_le 44 dX0_lowestAbove_19 (by decide) (fun c19 => ?_) (fun c19 => ?_)
    · refine x_iinc (L' := [(3, _), (2, _), (0, _), (1, _)]) (j := 0) (nI (_ + 1)) dX0_lowestAbove_44 rfl (nI_1 _) (ble rfl) rfl ?_
      refine x_goto 4 dX0_lowestAbove_47 (by decide) ?_
      refine x_locs (L' := [(3, _), (2, _), (0, _), (1, _)]) [0, 1, 2, 3] rfl ?_
      refine x_eqL ?_ ihi
      rw [laS]
      first | (rw [if_pos (by (simp only [Int32.lt_iff_toInt_lt, Int32.le_iff_toInt_le, ← Int32.toInt_inj, Int32.toInt_zero] at *; omega))]; done) | (rw [if_neg (by (simp only [Int32.lt_iff_toInt_lt, Int32.le_iff_toInt_le, ← Int32.toInt_inj, Int32.toInt_zero] at *; omega))]; done)
    · refine x_iload_n 1 dX0_lowestAbove_22 rfl rfl ?_
      refine x_iconst (v := -1) dX0_lowestAbove_23 rfl ?_
      refine x_icmp_eq 37 dX0_lowestAbove_24 (by decide) (fun c24 => ?_) (fun c24 => ?_)
      · first | refine x_aload_n 2 dX0_lowestAbove_37 rfl rfl ?_ | refine x_aload_nN 2 dX0_lowestAbove_37 rfl rfl ?_
        refine x_get fX0_9 rfl dX0_lowestAbove_38 (by with_reducible repeat first | assumption | exact hset_s | refine hget_n (by first | assumption | exact Ne.symm (by assumption) | exact nA (by assumption) (by omega) (by omega) (by omega)) ?_) (by rfl) ?_
        refine x_iload_n 0 dX0_lowestAbove_41 rfl rfl ?_
        refine x_ialdn dX0_lowestAbove_42 (by with_reducible repeat first | assumption | exact hset_s | refine hget_n (by first | assumption | exact Ne.symm (by assumption) | exact nA (by assumption) (by omega) (by omega) (by omega)) ?_) (by omega) (by first | decide | omega) ?_
        refine x_istore_n (L' := [(2, _), (3, _), (0, _), (1, _)]) dX0_lowestAbove_43 rfl (ble rfl) rfl ?_
        refine x_iinc (L' := [(3, _), (2, _), (0, _), (1, _)]) (j := 1) (nI (_ + 1)) dX0_lowestAbove_44 rfl (nI_1 _) (ble rfl) rfl ?_
        refine x_goto 4 dX0_lowestAbove_47 (by decide) ?_
        refine x_locs (L' := [(3, _), (2, _), (0, _), (1, _)]) [0, 1, 2, 3] rfl ?_
        refine x_eqL ?_ ihi
        rw [laS]
        first | (rw [if_pos (by (simp only [Int32.lt_iff_toInt_lt, Int32.le_iff_toInt_le, ← Int32.toInt_inj, Int32.toInt_zero] at *; omega))]; done) | (rw [if_neg (by (simp only [Int32.lt_iff_toInt_lt, Int32.le_iff_toInt_le, ← Int32.toInt_inj, Int32.toInt_zero] at *; omega))]; done)
      · first | refine x_aload_n 2 dX0_lowestAbove_27 rfl rfl ?_ | refine x_aload_nN 2 dX0_lowestAbove_27 rfl rfl ?_
        refine x_get fX0_9 rfl dX0_lowestAbove_28 (by with_reducible repeat first | assumption | exact hset_s | refine hget_n (by first | assumption | exact Ne.symm (by assumption) | exact nA (by assumption) (by omega) (by omega) (by omega)) ?_) (by rfl) ?_
        refine x_iload_n 0 dX0_lowestAbove_31 rfl rfl ?_
        refine x_ialdn dX0_lowestAbove_32 (by with_reducible repeat first | assumption | exact hset_s | refine hget_n (by first | assumption | exact Ne.symm (by assumption) | exact nA (by assumption) (by omega) (by omega) (by omega)) ?_) (by omega) (by first | decide | omega) ?_
        refine x_iload_n 1 dX0_lowestAbove_33 rfl rfl ?_
        refine x_icmp_ge 44 dX0_lowestAbove_34 (by decide) (fun c34 => ?_) (fun c34 => ?_)
        · refine x_iinc (L' := [(3, _), (2, _), (0, _), (1, _)]) (j := 0) (nI (_ + 1)) dX0_lowestAbove_44 rfl (nI_1 _) (ble rfl) rfl ?_
          refine x_goto 4 dX0_lowestAbove_47 (by decide) ?_
          refine x_locs (L' := [(3, _), (2, _), (0, _), (1, _)]) [0, 1, 2, 3] rfl ?_
          refine x_eqL ?_ ihi
          rw [laS]
          first | (rw [if_pos (by (simp only [Int32.lt_iff_toInt_lt, Int32.le_iff_toInt_le, ← Int32.toInt_inj, Int32.toInt_zero] at *; omega))]; done) | (rw [if_neg (by (simp only [Int32.lt_iff_toInt_lt, Int32.le_iff_toInt_le, ← Int32.toInt_inj, Int32.toInt_zero] at *; omega))]; done)
        · first | refine x_aload_n 2 dX0_lowestAbove_37 rfl rfl ?_ | refine x_aload_nN 2 dX0_lowestAbove_37 rfl rfl ?_
          refine x_get fX0_9 rfl dX0_lowestAbove_38 (by with_reducible repeat first | assumption | exact hset_s | refine hget_n (by first | assumption | exact Ne.symm (by assumption) | exact nA (by assumption) (by omega) (by omega) (by omega)) ?_) (by rfl) ?_
          refine x_iload_n 0 dX0_lowestAbove_41 rfl rfl ?_
          refine x_ialdn dX0_lowestAbove_42 (by with_reducible repeat first | assumption | exact hset_s | refine hget_n (by first | assumption | exact Ne.symm (by assumption) | exact nA (by assumption) (by omega) (by omega) (by omega)) ?_) (by omega) (by first | decide | omega) ?_
          refine x_istore_n (L' := [(2, _), (3, _), (0, _), (1, _)]) dX0_lowestAbove_43 rfl (ble rfl) rfl ?_
          refine x_iinc (L' := [(3, _), (2, _), (0, _), (1, _)]) (j := 1) (nI (_ + 1)) dX0_lowestAbove_44 rfl (nI_1 _) (ble rfl) rfl ?_
          refine x_goto 4 dX0_lowestAbove_47 (by decide) ?_
          refine x_locs (L' := [(3, _), (2, _), (0, _), (1, _)]) [0, 1, 2, 3] rfl ?_
          refine x_eqL ?_ ihi
          rw [laS]
          first | (rw [if_pos (by (simp only [Int32.lt_iff_toInt_lt, Int32.le_iff_toInt_le, ← Int32.toInt_inj, Int32.toInt_zero] at *; omega))]; done) | (rw [if_neg (by (simp only [Int32.lt_iff_toInt_lt, Int32.le_iff_toInt_le, ← Int32.toInt_inj, Int32.toInt_zero] at *; omega))]; done)
set_option maxRecDepth 100000 in
set_option maxHeartbeats 4000000 in
theorem ct_X0_chain {l : Launch} {G : Gl} {h : Hp} {sz : Nat} {f : Nat → Int32} (H : ChW G h sz f) (hz : sz ≤ 16) (x : Int32) : CtR l G mX0_chain 2 [.ref (Ad G 7), .int x] h (some (.int (chS f sz x))) (h) := by
  obtain ⟨h7, h8⟩ := H
  refine Ct.of (L := [(0, _), (1, _)]) (by decide) (ble rfl) rfl ?_
  first | refine x_aload_n 0 dX0_chain_0 rfl rfl ?_ | refine x_aload_nN 0 dX0_chain_0 rfl rfl ?_
  refine x_iconst (v := -1) dX0_chain_1 rfl ?_
  refine x_cV1 (As := [.int _]) (ct_X0_lowestAbove ⟨h7, h8⟩ (by assumption) _) vX0_46 rfl (x_recv (by with_reducible repeat first | assumption | exact hset_s | refine hget_n (by first | assumption | exact Ne.symm (by assumption) | exact nA (by assumption) (by omega) (by omega) (by omega)) ?_) rfl) rfl ⟨ble rfl, ble rfl⟩ (ble rfl) dX0_chain_2 rfl ?_
  refine x_istore_n (L' := [(2, _), (0, _), (1, _)]) dX0_chain_5 rfl (ble rfl) rfl ?_
  refine x_iload_n 0 dX0_chain_6 rfl rfl ?_
  refine x_iconst (v := -1) dX0_chain_7 rfl ?_
  refine x_icmp_ne 13 dX0_chain_8 (by decide) (fun c8 => ?_) (fun c8 => ?_)
  · refine x_iconst (v := 1) dX0_chain_13 rfl ?_
    refine x_istore_n (L' := [(3, _), (2, _), (0, _), (1, _)]) dX0_chain_14 rfl (ble rfl) rfl ?_
    have hz1 : 1 ≤ sz := Nat.pos_of_ne_zero (fun q => by subst q; exact c8 rfl)
    refine x_locs (L' := [(3, _), (2, _), (0, _), (1, _)]) [0, 1, 2, 3] rfl ?_
    refine dn (P := fun i => lowD (nI sz) (fun i => decide (chL f sz i = -1 ∨ ¬ chL f sz i - chL f sz (i - 1) ≤ x)) sz (sz - (i + 1)) = lowD (nI sz) (fun i => decide (chL f sz i = -1 ∨ ¬ chL f sz i - chL f sz (i - 1) ≤ x)) sz (sz - 1) → XX l G mX0_chain (Rm 2 0 0) (KQ G (Rm 2 0 0) (fun w h' => w = some (.int (chS f sz x)) ∧ h' = h)) 0 0 15 [(3, .int (nI (i + 1))), (2, .int (chL f sz i)), (0, .ref (Ad G 7)), (1, .int x)] [] h) (n := sz - 1) ?_ (fun i hi ihi => ?_) rfl
    · intro he
      refine x_iload_n 0 dX0_chain_15 rfl rfl ?_
      first | refine x_aload_n 2 dX0_chain_16 rfl rfl ?_ | refine x_aload_nN 2 dX0_chain_16 rfl rfl ?_
      refine x_get fX0_15 rfl dX0_chain_17 (by with_reducible repeat first | assumption | exact hset_s | refine hget_n (by first | assumption | exact Ne.symm (by assumption) | exact nA (by assumption) (by omega) (by omega) (by omega)) ?_) (by rfl) ?_
      refine x_icmp_ge 55 dX0_chain_20 (by decide) (fun _ => ?_) (fun z => by first | exact absurd (by rw [show sz - 1 + 1 = sz by omega]; exact Int32.le_refl _) z | exact absurd z (by rw [show sz - 1 + 1 = sz by omega]; exact Int32.le_refl _))
      first | refine x_aload_n 2 dX0_chain_55 rfl rfl ?_ | refine x_aload_nN 2 dX0_chain_55 rfl rfl ?_
      refine x_get fX0_15 rfl dX0_chain_56 (by with_reducible repeat first | assumption | exact hset_s | refine hget_n (by first | assumption | exact Ne.symm (by assumption) | exact nA (by assumption) (by omega) (by omega) (by omega)) ?_) (by rfl) ?_
      refine x_iret rfl dX0_chain_59 ?_
      refine ⟨congrArg (fun z => some (Value.int z)) ?_, rfl⟩
      first | exact (if_pos (by assumption)).symm | (rw [chS, if_neg (by assumption)]; first | (rw [lowD_at (show i + 1 < sz by omega), if_pos (by simp_all [chL])] at he; exact he) | (rw [show sz - (sz - 1 + 1) = 0 by omega] at he; exact he))
    · intro he
      refine x_iload_n 0 dX0_chain_15 rfl rfl ?_
      first | refine x_aload_n 2 dX0_chain_16 rfl rfl ?_ | refine x_aload_nN 2 dX0_chain_16 rfl rfl ?_
      refine x_get fX0_15 rfl dX0_chain_17 (by with_reducible repeat first | assumption | exact hset_s | refine hget_n (by first | assumption | exact Ne.symm (by assumption) | exact nA (by assumption) (by omega) (by omega) (by omega)) ?_) (by rfl) ?_
      refine x_icmp_ge 55 dX0_chain_20 (by decide) (fun z => by first | exact absurd z (nI_ge (by omega) (by omega)) | exact absurd (nI_ge (by omega) (by omega)) z) (fun _ => ?_)
      first | refine x_aload_n 2 dX0_chain_23 rfl rfl ?_ | refine x_aload_nN 2 dX0_chain_23 rfl rfl ?_
      refine x_iload_n 1 dX0_chain_24 rfl rfl ?_
      refine x_cV1 (As := [.int _]) (ct_X0_lowestAbove ⟨h7, h8⟩ (by assumption) _) vX0_46 rfl (x_recv (by with_reducible repeat first | assumption | exact hset_s | refine hget_n (by first | assumption | exact Ne.symm (by assumption) | exact nA (by assumption) (by omega) (by omega) (by omega)) ?_) rfl) rfl ⟨ble rfl, ble rfl⟩ (ble rfl) dX0_chain_25 rfl ?_
      refine x_istore (L' := [(4, _), (3, _), (2, _), (0, _), (1, _)]) dX0_chain_28 (ble rfl) rfl ?_
      refine x_iload 0 dX0_chain_30 rfl ?_
      refine x_iconst (v := -1) dX0_chain_32 rfl ?_
      refine x_icmp_eq 44 dX0_chain_33 (by decide) (fun c33 => ?_) (fun c33 => ?_)
      · refine x_iload_n 1 dX0_chain_44 rfl rfl ?_
        refine x_iret rfl dX0_chain_45 ?_
        refine ⟨congrArg (fun z => some (Value.int z)) ?_, rfl⟩
        first | exact (if_pos (by assumption)).symm | (rw [chS, if_neg (by assumption)]; first | (rw [lowD_at (show i + 1 < sz by omega), if_pos (by simp_all [chL])] at he; exact he) | (rw [show sz - (sz - 1 + 1) = 0 by omega] at he; exact he))
      · refine x_iload 0 dX0_chain_36 rfl ?_
        refine x_iload_n 2 dX0_chain_38 rfl rfl ?_
        refine x_isub dX0_chain_39 ?_
        refine x_iload_n 4 dX0_chain_40 rfl rfl ?_
        refine x_icmp_le 46 dX0_chain_41 (by decide) (fun c41 => ?_) (fun c41 => ?_)
        · refine x_iload 0 dX0_chain_46 rfl ?_
          refine x_istore_n (L' := [(2, _), (4, _), (3, _), (0, _), (1, _)]) dX0_chain_48 rfl (ble rfl) rfl ?_
          refine x_iinc (L' := [(3, _), (2, _), (4, _), (0, _), (1, _)]) (j := 2) (nI (_ + 1)) dX0_chain_49 rfl (nI_1 _) (ble rfl) rfl ?_
          refine x_goto 15 dX0_chain_52 (by decide) ?_
          refine x_locs (L' := [(3, _), (2, _), (0, _), (1, _)]) [0, 1, 3, 4] rfl ?_
          refine ihi ?_
          rw [lowD_at (show i + 1 < sz by omega), if_neg (by simp_all [chL])] at he
          exact he
        · refine x_iload_n 1 dX0_chain_44 rfl rfl ?_
          refine x_iret rfl dX0_chain_45 ?_
          refine ⟨congrArg (fun z => some (Value.int z)) ?_, rfl⟩
          first | exact (if_pos (by assumption)).symm | (rw [chS, if_neg (by assumption)]; first | (rw [lowD_at (show i + 1 < sz by omega), if_pos (by simp_all [chL])] at he; exact he) | (rw [show sz - (sz - 1 + 1) = 0 by omega] at he; exact he))
  · refine x_iconst (v := 0) dX0_chain_11 rfl ?_
    refine x_iret rfl dX0_chain_12 ?_
    refine ⟨congrArg (fun z => some (Value.int z)) ?_, rfl⟩
    first | exact (if_pos (by assumption)).symm | (rw [chS, if_neg (by assumption)]; first | (rw [lowD_at (show i + 1 < sz by omega), if_pos (by simp_all [chL])] at he; exact he) | (rw [show sz - (sz - 1 + 1) = 0 by omega] at he; exact he))
set_option maxRecDepth 100000 in
set_option maxHeartbeats 4000000 in
theorem ct_X0_closest {l : Launch} {G : Gl} {h : Hp} {sz : Nat} {f : Nat → Int32} (H : ChW G h sz f) (hz : sz ≤ 16) (x : Int32) : CtR l G mX0_closest 1 [.ref (Ad G 7), .int x] h (some (.int (clS f x sz))) (h) := by
  obtain ⟨h7, h8⟩ := H
  refine Ct.of (L := [(0, _), (1, _)]) (by decide) (ble rfl) rfl ?_
  refine x_bipush (v := -4) dX0_closest_0 rfl ?_
  refine x_istore_n (L' := [(2, _), (0, _), (1, _)]) dX0_closest_2 rfl (ble rfl) rfl ?_
  refine x_iconst (v := 0) dX0_closest_3 rfl ?_
  refine x_istore_n (L' := [(3, _), (2, _), (0, _), (1, _)]) dX0_closest_4 rfl (ble rfl) rfl ?_
  refine x_locs (L' := [(3, _), (2, _), (0, _), (1, _)]) [0, 1, 2, 3] rfl ?_
  refine dn (P := fun i => XX l G mX0_closest (Rm 1 0 0) (KQ G (Rm 1 0 0) (fun w h' => w = some (.int (clS f x sz)) ∧ h' = h)) 0 0 5 [(3, .int (nI i)), (2, .int (clS f x i)), (0, .ref (Ad G 7)), (1, .int x)] [] h) (n := sz) ?_ (fun i hi ihi => ?_)
  · refine x_iload_n 0 dX0_closest_5 rfl rfl ?_
    first | refine x_aload_n 2 dX0_closest_6 rfl rfl ?_ | refine x_aload_nN 2 dX0_closest_6 rfl rfl ?_
    refine x_get fX0_15 rfl dX0_closest_7 (by with_reducible repeat first | assumption | exact hset_s | refine hget_n (by first | assumption | exact Ne.symm (by assumption) | exact nA (by assumption) (by omega) (by omega) (by omega)) ?_) (by rfl) ?_
    refine x_icmp_ge 59 dX0_closest_10 (by decide) (fun _ => ?_) (fun z => by first | exact absurd (Int32.le_refl _) z | exact absurd z (Int32.le_refl _))
    refine x_iload_n 1 dX0_closest_59 rfl rfl ?_
    refine x_iret rfl dX0_closest_60 ?_
    exact ⟨rfl, rfl⟩
  · refine x_iload_n 0 dX0_closest_5 rfl rfl ?_
    first | refine x_aload_n 2 dX0_closest_6 rfl rfl ?_ | refine x_aload_nN 2 dX0_closest_6 rfl rfl ?_
    refine x_get fX0_15 rfl dX0_closest_7 (by with_reducible repeat first | assumption | exact hset_s | refine hget_n (by first | assumption | exact Ne.symm (by assumption) | exact nA (by assumption) (by omega) (by omega) (by omega)) ?_) (by rfl) ?_
    refine x_icmp_ge 59 dX0_closest_10 (by decide) (fun z => by first | exact absurd z (nI_ge hi (by omega)) | exact absurd (nI_ge hi (by omega)) z) (fun _ => ?_)
    first | refine x_aload_n 2 dX0_closest_13 rfl rfl ?_ | refine x_aload_nN 2 dX0_closest_13 rfl rfl ?_
    refine x_get fX0_9 rfl dX0_closest_14 (by with_reducible repeat first | assumption | exact hset_s | refine hget_n (by first | assumption | exact Ne.symm (by assumption) | exact nA (by assumption) (by omega) (by omega) (by omega)) ?_) (by rfl) ?_
    refine x_iload_n 0 dX0_closest_17 rfl rfl ?_
    refine x_ialdn dX0_closest_18 (by with_reducible repeat first | assumption | exact hset_s | refine hget_n (by first | assumption | exact Ne.symm (by assumption) | exact nA (by assumption) (by omega) (by omega) (by omega)) ?_) (by omega) (by first | decide | omega) ?_
    refine x_if_lt 53 dX0_closest_19 (by decide) (fun c19 => ?_) (fun c19 => ?_)
    · refine x_iinc (L' := [(3, _), (2, _), (0, _), (1, _)]) (j := 0) (nI (_ + 1)) dX0_closest_53 rfl (nI_1 _) (ble rfl) rfl ?_
      refine x_goto 5 dX0_closest_56 (by decide) ?_
      refine x_locs (L' := [(3, _), (2, _), (0, _), (1, _)]) [0, 1, 2, 3] rfl ?_
      refine x_eqL ?_ ihi
      rw [clS]
      unfold ab kOf
      generalize hee : clS f x i = ee at *
      first | (rw [if_pos (by (simp only [Int32.lt_iff_toInt_lt, Int32.le_iff_toInt_le, ← Int32.toInt_inj, Int32.toInt_zero] at *; omega))]; done) | (rw [if_neg (by (simp only [Int32.lt_iff_toInt_lt, Int32.le_iff_toInt_le, ← Int32.toInt_inj, Int32.toInt_zero] at *; omega))]; done)
    · refine x_iload_n 1 dX0_closest_22 rfl rfl ?_
      refine x_if_lt 51 dX0_closest_23 (by decide) (fun c23 => ?_) (fun c23 => ?_)
      · refine x_iload_n 0 dX0_closest_51 rfl rfl ?_
        refine x_istore_n (L' := [(2, _), (3, _), (0, _), (1, _)]) dX0_closest_52 rfl (ble rfl) rfl ?_
        refine x_iinc (L' := [(3, _), (2, _), (0, _), (1, _)]) (j := 1) (nI (_ + 1)) dX0_closest_53 rfl (nI_1 _) (ble rfl) rfl ?_
        refine x_goto 5 dX0_closest_56 (by decide) ?_
        refine x_locs (L' := [(3, _), (2, _), (0, _), (1, _)]) [0, 1, 2, 3] rfl ?_
        refine x_eqL ?_ ihi
        rw [clS]
        unfold ab kOf
        generalize hee : clS f x i = ee at *
        first | (rw [if_pos (by (simp only [Int32.lt_iff_toInt_lt, Int32.le_iff_toInt_le, ← Int32.toInt_inj, Int32.toInt_zero] at *; omega))]; done) | (rw [if_neg (by (simp only [Int32.lt_iff_toInt_lt, Int32.le_iff_toInt_le, ← Int32.toInt_inj, Int32.toInt_zero] at *; omega))]; done)
      · first | refine x_aload_n 2 dX0_closest_26 rfl rfl ?_ | refine x_aload_nN 2 dX0_closest_26 rfl rfl ?_
        refine x_get fX0_9 rfl dX0_closest_27 (by with_reducible repeat first | assumption | exact hset_s | refine hget_n (by first | assumption | exact Ne.symm (by assumption) | exact nA (by assumption) (by omega) (by omega) (by omega)) ?_) (by rfl) ?_
        refine x_iload_n 0 dX0_closest_30 rfl rfl ?_
        refine x_ialdn dX0_closest_31 (by with_reducible repeat first | assumption | exact hset_s | refine hget_n (by first | assumption | exact Ne.symm (by assumption) | exact nA (by assumption) (by omega) (by omega) (by omega)) ?_) (by omega) (by first | decide | omega) ?_
        refine x_iload_n 3 dX0_closest_32 rfl rfl ?_
        refine x_isub dX0_closest_33 ?_
        refine x_mabs rfl wX0_49 wMabs2 wMath3 wMabs4 (ble rfl) (ble rfl) dX0_closest_34 ?_
        first | refine x_aload_n 2 dX0_closest_37 rfl rfl ?_ | refine x_aload_nN 2 dX0_closest_37 rfl rfl ?_
        refine x_get fX0_9 rfl dX0_closest_38 (by with_reducible repeat first | assumption | exact hset_s | refine hget_n (by first | assumption | exact Ne.symm (by assumption) | exact nA (by assumption) (by omega) (by omega) (by omega)) ?_) (by rfl) ?_
        refine x_iload_n 1 dX0_closest_41 rfl rfl ?_
        refine x_iald dX0_closest_42 (by with_reducible repeat first | assumption | exact hset_s | refine hget_n (by first | assumption | exact Ne.symm (by assumption) | exact nA (by assumption) (by omega) (by omega) (by omega)) ?_) (by rcases clS_c f x i with q | ⟨j, hj, e⟩; exact absurd q c23; rw [e]; exact vp_in_nI (by omega) (by omega)) ?_
        refine x_iload_n 3 dX0_closest_43 rfl rfl ?_
        refine x_isub dX0_closest_44 ?_
        refine x_mabs rfl wX0_49 wMabs2 wMath3 wMabs4 (ble rfl) (ble rfl) dX0_closest_45 ?_
        refine x_icmp_ge 53 dX0_closest_48 (by decide) (fun c48 => ?_) (fun c48 => ?_)
        · refine x_iinc (L' := [(3, _), (2, _), (0, _), (1, _)]) (j := 0) (nI (_ + 1)) dX0_closest_53 rfl (nI_1 _) (ble rfl) rfl ?_
          refine x_goto 5 dX0_closest_56 (by decide) ?_
          refine x_locs (L' := [(3, _), (2, _), (0, _), (1, _)]) [0, 1, 2, 3] rfl ?_
          refine x_eqL ?_ ihi
          rw [clS]
          unfold ab kOf
          generalize hee : clS f x i = ee at *
          first | (rw [if_pos (by (simp only [Int32.lt_iff_toInt_lt, Int32.le_iff_toInt_le, ← Int32.toInt_inj, Int32.toInt_zero] at *; omega))]; done) | (rw [if_neg (by (simp only [Int32.lt_iff_toInt_lt, Int32.le_iff_toInt_le, ← Int32.toInt_inj, Int32.toInt_zero] at *; omega))]; done)
        · refine x_iload_n 0 dX0_closest_51 rfl rfl ?_
          refine x_istore_n (L' := [(2, _), (3, _), (0, _), (1, _)]) dX0_closest_52 rfl (ble rfl) rfl ?_
          refine x_iinc (L' := [(3, _), (2, _), (0, _), (1, _)]) (j := 1) (nI (_ + 1)) dX0_closest_53 rfl (nI_1 _) (ble rfl) rfl ?_
          refine x_goto 5 dX0_closest_56 (by decide) ?_
          refine x_locs (L' := [(3, _), (2, _), (0, _), (1, _)]) [0, 1, 2, 3] rfl ?_
          refine x_eqL ?_ ihi
          rw [clS]
          unfold ab kOf
          generalize hee : clS f x i = ee at *
          first | (rw [if_pos (by (simp only [Int32.lt_iff_toInt_lt, Int32.le_iff_toInt_le, ← Int32.toInt_inj, Int32.toInt_zero] at *; omega))]; done) | (rw [if_neg (by (simp only [Int32.lt_iff_toInt_lt, Int32.le_iff_toInt_le, ← Int32.toInt_inj, Int32.toInt_zero] at *; omega))]; done)
set_option maxRecDepth 100000 in
set_option maxHeartbeats 4000000 in
theorem ct_X0_mean {l : Launch} {G : Gl} {h : Hp} {sz : Nat} {f : Nat → Int32} (H : ChW G h sz f) (hz : sz ≤ 16) (hf : ¬ mrS f sz = 0 → vf_n32 (FP.fdiv (FP.i2f (msS f sz)) (FP.i2f (mrS f sz)))) : CtR l G mX0_mean 1 [.ref (Ad G 7)] h (some (.float (meanS f sz))) (h) := by
  obtain ⟨h7, h8⟩ := H
  refine Ct.of (L := [(0, _)]) (by decide) (ble rfl) rfl ?_
  refine x_iconst (v := 0) dX0_mean_0 rfl ?_
  refine x_istore_n (L' := [(1, _), (0, _)]) dX0_mean_1 rfl (ble rfl) rfl ?_
  refine x_iconst (v := 0) dX0_mean_2 rfl ?_
  refine x_istore_n (L' := [(2, _), (1, _), (0, _)]) dX0_mean_3 rfl (ble rfl) rfl ?_
  refine x_iconst (v := 0) dX0_mean_4 rfl ?_
  refine x_istore_n (L' := [(3, _), (2, _), (1, _), (0, _)]) dX0_mean_5 rfl (ble rfl) rfl ?_
  refine x_locs (L' := [(3, _), (2, _), (1, _), (0, _)]) [0, 1, 2, 3] rfl ?_
  refine dn (P := fun i => XX l G mX0_mean (Rm 1 0 0) (KQ G (Rm 1 0 0) (fun w h' => w = some (.float (meanS f sz)) ∧ h' = h)) 0 0 6 [(3, .int (nI i)), (2, .int (mrS f i)), (1, .int (msS f i)), (0, .ref (Ad G 7))] [] h) (n := sz) ?_ (fun i hi ihi => ?_)
  · refine x_iload_n 0 dX0_mean_6 rfl rfl ?_
    first | refine x_aload_n 3 dX0_mean_7 rfl rfl ?_ | refine x_aload_nN 3 dX0_mean_7 rfl rfl ?_
    refine x_get fX0_15 rfl dX0_mean_8 (by with_reducible repeat first | assumption | exact hset_s | refine hget_n (by first | assumption | exact Ne.symm (by assumption) | exact nA (by assumption) (by omega) (by omega) (by omega)) ?_) (by rfl) ?_
    refine x_icmp_ge 41 dX0_mean_11 (by decide) (fun _ => ?_) (fun z => by first | exact absurd (Int32.le_refl _) z | exact absurd z (Int32.le_refl _))
    refine x_iload_n 1 dX0_mean_41 rfl rfl ?_
    refine x_if_ne 49 dX0_mean_42 (by decide) (fun c42 => ?_) (fun c42 => ?_)
    · refine x_iload_n 2 dX0_mean_49 rfl rfl ?_
      refine x_i2f dX0_mean_50 ?_
      refine x_iload_n 1 dX0_mean_51 rfl rfl ?_
      refine x_i2f dX0_mean_52 ?_
      refine x_fdiv dX0_mean_53 (by exact hf c42) ?_
      refine x_fret rfl dX0_mean_54 ?_
      refine ⟨congrArg (fun z => some (Value.float z)) ?_, rfl⟩
      first | exact (if_pos (by simpa using c42)).symm | exact (if_neg (by assumption)).symm
    · refine x_fconst0 dX0_mean_45 ?_
      refine x_goto 54 dX0_mean_46 (by decide) ?_
      refine x_fret rfl dX0_mean_54 ?_
      refine ⟨congrArg (fun z => some (Value.float z)) ?_, rfl⟩
      first | exact (if_pos (by simpa using c42)).symm | exact (if_neg (by assumption)).symm
  · refine x_iload_n 0 dX0_mean_6 rfl rfl ?_
    first | refine x_aload_n 3 dX0_mean_7 rfl rfl ?_ | refine x_aload_nN 3 dX0_mean_7 rfl rfl ?_
    refine x_get fX0_15 rfl dX0_mean_8 (by with_reducible repeat first | assumption | exact hset_s | refine hget_n (by first | assumption | exact Ne.symm (by assumption) | exact nA (by assumption) (by omega) (by omega) (by omega)) ?_) (by rfl) ?_
    refine x_icmp_ge 41 dX0_mean_11 (by decide) (fun z => by first | exact absurd z (nI_ge hi (by omega)) | exact absurd (nI_ge hi (by omega)) z) (fun _ => ?_)
    first | refine x_aload_n 3 dX0_mean_14 rfl rfl ?_ | refine x_aload_nN 3 dX0_mean_14 rfl rfl ?_
    refine x_get fX0_9 rfl dX0_mean_15 (by with_reducible repeat first | assumption | exact hset_s | refine hget_n (by first | assumption | exact Ne.symm (by assumption) | exact nA (by assumption) (by omega) (by omega) (by omega)) ?_) (by rfl) ?_
    refine x_iload_n 0 dX0_mean_18 rfl rfl ?_
    refine x_ialdn dX0_mean_19 (by with_reducible repeat first | assumption | exact hset_s | refine hget_n (by first | assumption | exact Ne.symm (by assumption) | exact nA (by assumption) (by omega) (by omega) (by omega)) ?_) (by omega) (by first | decide | omega) ?_
    refine x_if_lt 35 dX0_mean_20 (by decide) (fun c20 => ?_) (fun c20 => ?_)
    · refine x_iinc (L' := [(3, _), (2, _), (1, _), (0, _)]) (j := 0) (nI (_ + 1)) dX0_mean_35 rfl (nI_1 _) (ble rfl) rfl ?_
      refine x_goto 6 dX0_mean_38 (by decide) ?_
      refine x_locs (L' := [(3, _), (2, _), (1, _), (0, _)]) [0, 1, 2, 3] rfl ?_
      refine x_eqL ?_ ihi
      unfold mrS msS
      simp only [sm]
      first | (rw [if_pos (by assumption), if_pos (by assumption), Int32.add_zero, Int32.add_zero]; done) | (rw [if_neg (by assumption), if_neg (by assumption)]; done)
    · refine x_iload_n 2 dX0_mean_23 rfl rfl ?_
      first | refine x_aload_n 3 dX0_mean_24 rfl rfl ?_ | refine x_aload_nN 3 dX0_mean_24 rfl rfl ?_
      refine x_get fX0_9 rfl dX0_mean_25 (by with_reducible repeat first | assumption | exact hset_s | refine hget_n (by first | assumption | exact Ne.symm (by assumption) | exact nA (by assumption) (by omega) (by omega) (by omega)) ?_) (by rfl) ?_
      refine x_iload_n 0 dX0_mean_28 rfl rfl ?_
      refine x_ialdn dX0_mean_29 (by with_reducible repeat first | assumption | exact hset_s | refine hget_n (by first | assumption | exact Ne.symm (by assumption) | exact nA (by assumption) (by omega) (by omega) (by omega)) ?_) (by omega) (by first | decide | omega) ?_
      refine x_iadd dX0_mean_30 ?_
      refine x_istore_n (L' := [(1, _), (3, _), (2, _), (0, _)]) dX0_mean_31 rfl (ble rfl) rfl ?_
      refine x_iinc (L' := [(2, _), (1, _), (3, _), (0, _)]) (j := 2) (_ + 1) dX0_mean_32 rfl rfl (ble rfl) rfl ?_
      refine x_iinc (L' := [(3, _), (2, _), (1, _), (0, _)]) (j := 2) (nI (_ + 1)) dX0_mean_35 rfl (nI_1 _) (ble rfl) rfl ?_
      refine x_goto 6 dX0_mean_38 (by decide) ?_
      refine x_locs (L' := [(3, _), (2, _), (1, _), (0, _)]) [0, 1, 2, 3] rfl ?_
      refine x_eqL ?_ ihi
      unfold mrS msS
      simp only [sm]
      first | (rw [if_pos (by assumption), if_pos (by assumption), Int32.add_zero, Int32.add_zero]; done) | (rw [if_neg (by assumption), if_neg (by assumption)]; done)
