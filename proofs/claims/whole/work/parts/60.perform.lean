set_option maxRecDepth 100000 in
set_option maxHeartbeats 1000000 in
theorem ct_verbAt {l : Launch} {G : Gl} {h : Hp} {cn ci v : Nat} {att : Int32} {vf : Nat → Option Nat} {ff sf : Nat → Int32} (hs : h (Ad G 9) = some (eSc G (nI cn) att)) (h11 : h (Ad G 11) = some (eR G 7 10 vf)) (h12 : h (Ad G 12) = some (eI G 10 ff)) (h13 : h (Ad G 13) = some (eI G 10 sf)) (hci : ci < cn) (hcn : cn ≤ 10) (hv : vf ci = some (G.2.2.2 (3 + v))) : CtR l G mX6_verbAt 1 [.ref (Ad G 9), .int (nI ci)] h (some (.ref (G.2.2.2 (3 + v)))) (h) := by
  refine Ct.of (L := [(0, _), (1, _)]) (by decide) (ble rfl) rfl ?_
  refine x_iload_n 1 dX6_verbAt_0 rfl rfl ?_
  refine x_if_lt 21 dX6_verbAt_1 (by decide) (fun z => by first | exact absurd z (nI_pos (by omega)) | exact absurd (nI_pos (by omega)) z) (fun _ => ?_)
  refine x_iload_n 1 dX6_verbAt_4 rfl rfl ?_
  first | refine x_aload_n 0 dX6_verbAt_5 rfl rfl ?_ | refine x_aload_nN 0 dX6_verbAt_5 rfl rfl ?_
  refine x_get fX6_31 rfl dX6_verbAt_6 (by with_reducible repeat first | assumption | exact hset_s | refine hget_n (by first | assumption | exact Ne.symm (by assumption) | exact nA ok (by omega) (by omega) (by omega)) ?_) (by rfl) ?_
  refine x_icmp_ge 21 dX6_verbAt_9 (by decide) (fun z => by first | exact absurd z (nI_ge hci (by omega)) | exact absurd (nI_ge hci (by omega)) z) (fun _ => ?_)
  first | refine x_aload_n 0 dX6_verbAt_12 rfl rfl ?_ | refine x_aload_nN 0 dX6_verbAt_12 rfl rfl ?_
  refine x_get fX6_20 rfl dX6_verbAt_13 (by with_reducible repeat first | assumption | exact hset_s | refine hget_n (by first | assumption | exact Ne.symm (by assumption) | exact nA ok (by omega) (by omega) (by omega)) ?_) (by rfl) ?_
  refine x_iload_n 1 dX6_verbAt_16 rfl rfl ?_
  refine x_aald 7 rfl dX6_verbAt_17 (by with_reducible repeat first | assumption | exact hset_s | refine hget_n (by first | assumption | exact Ne.symm (by assumption) | exact nA ok (by omega) (by omega) (by omega)) ?_) (vp_in_nI (by omega) (by omega)) (v := .ref (G.2.2.2 (3 + v))) (by rw [nI_clamp (by omega), hv]; rfl) ?_
  refine x_goto 24 dX6_verbAt_18 (by decide) ?_
  refine x_aret rfl (by first | exact Or.inl ⟨_, rfl⟩ | exact Or.inr ⟨_, rfl⟩) (by first | exact Or.inl rfl | exact Or.inr ⟨_, rfl⟩ | assumption) dX6_verbAt_24 ?_
  exact ⟨rfl, rfl⟩
set_option maxRecDepth 100000 in
set_option maxHeartbeats 1000000 in
theorem ct_firstAt {l : Launch} {G : Gl} {h : Hp} {cn ci : Nat} {att : Int32} {vf : Nat → Option Nat} {ff sf : Nat → Int32} (hs : h (Ad G 9) = some (eSc G (nI cn) att)) (h11 : h (Ad G 11) = some (eR G 7 10 vf)) (h12 : h (Ad G 12) = some (eI G 10 ff)) (h13 : h (Ad G 13) = some (eI G 10 sf)) (hci : ci < cn) (hcn : cn ≤ 10) : CtR l G mX6_firstAt 1 [.ref (Ad G 9), .int (nI ci)] h (some (.int (ff ci))) (h) := by
  refine Ct.of (L := [(0, _), (1, _)]) (by decide) (ble rfl) rfl ?_
  refine x_iload_n 1 dX6_firstAt_0 rfl rfl ?_
  refine x_if_lt 21 dX6_firstAt_1 (by decide) (fun z => by first | exact absurd z (nI_pos (by omega)) | exact absurd (nI_pos (by omega)) z) (fun _ => ?_)
  refine x_iload_n 1 dX6_firstAt_4 rfl rfl ?_
  first | refine x_aload_n 0 dX6_firstAt_5 rfl rfl ?_ | refine x_aload_nN 0 dX6_firstAt_5 rfl rfl ?_
  refine x_get fX6_31 rfl dX6_firstAt_6 (by with_reducible repeat first | assumption | exact hset_s | refine hget_n (by first | assumption | exact Ne.symm (by assumption) | exact nA ok (by omega) (by omega) (by omega)) ?_) (by rfl) ?_
  refine x_icmp_ge 21 dX6_firstAt_9 (by decide) (fun z => by first | exact absurd z (nI_ge hci (by omega)) | exact absurd (nI_ge hci (by omega)) z) (fun _ => ?_)
  first | refine x_aload_n 0 dX6_firstAt_12 rfl rfl ?_ | refine x_aload_nN 0 dX6_firstAt_12 rfl rfl ?_
  refine x_get fX6_24 rfl dX6_firstAt_13 (by with_reducible repeat first | assumption | exact hset_s | refine hget_n (by first | assumption | exact Ne.symm (by assumption) | exact nA ok (by omega) (by omega) (by omega)) ?_) (by rfl) ?_
  refine x_iload_n 1 dX6_firstAt_16 rfl rfl ?_
  refine x_ialdn dX6_firstAt_17 (by with_reducible repeat first | assumption | exact hset_s | refine hget_n (by first | assumption | exact Ne.symm (by assumption) | exact nA ok (by omega) (by omega) (by omega)) ?_) (by omega) (by first | decide | omega) ?_
  refine x_goto 22 dX6_firstAt_18 (by decide) ?_
  refine x_iret rfl dX6_firstAt_22 ?_
  exact ⟨rfl, rfl⟩
set_option maxRecDepth 100000 in
set_option maxHeartbeats 1000000 in
theorem ct_secondAt {l : Launch} {G : Gl} {h : Hp} {cn ci : Nat} {att : Int32} {vf : Nat → Option Nat} {ff sf : Nat → Int32} (hs : h (Ad G 9) = some (eSc G (nI cn) att)) (h11 : h (Ad G 11) = some (eR G 7 10 vf)) (h12 : h (Ad G 12) = some (eI G 10 ff)) (h13 : h (Ad G 13) = some (eI G 10 sf)) (hci : ci < cn) (hcn : cn ≤ 10) : CtR l G mX6_secondAt 1 [.ref (Ad G 9), .int (nI ci)] h (some (.int (sf ci))) (h) := by
  refine Ct.of (L := [(0, _), (1, _)]) (by decide) (ble rfl) rfl ?_
  refine x_iload_n 1 dX6_secondAt_0 rfl rfl ?_
  refine x_if_lt 21 dX6_secondAt_1 (by decide) (fun z => by first | exact absurd z (nI_pos (by omega)) | exact absurd (nI_pos (by omega)) z) (fun _ => ?_)
  refine x_iload_n 1 dX6_secondAt_4 rfl rfl ?_
  first | refine x_aload_n 0 dX6_secondAt_5 rfl rfl ?_ | refine x_aload_nN 0 dX6_secondAt_5 rfl rfl ?_
  refine x_get fX6_31 rfl dX6_secondAt_6 (by with_reducible repeat first | assumption | exact hset_s | refine hget_n (by first | assumption | exact Ne.symm (by assumption) | exact nA ok (by omega) (by omega) (by omega)) ?_) (by rfl) ?_
  refine x_icmp_ge 21 dX6_secondAt_9 (by decide) (fun z => by first | exact absurd z (nI_ge hci (by omega)) | exact absurd (nI_ge hci (by omega)) z) (fun _ => ?_)
  first | refine x_aload_n 0 dX6_secondAt_12 rfl rfl ?_ | refine x_aload_nN 0 dX6_secondAt_12 rfl rfl ?_
  refine x_get fX6_28 rfl dX6_secondAt_13 (by with_reducible repeat first | assumption | exact hset_s | refine hget_n (by first | assumption | exact Ne.symm (by assumption) | exact nA ok (by omega) (by omega) (by omega)) ?_) (by rfl) ?_
  refine x_iload_n 1 dX6_secondAt_16 rfl rfl ?_
  refine x_ialdn dX6_secondAt_17 (by with_reducible repeat first | assumption | exact hset_s | refine hget_n (by first | assumption | exact Ne.symm (by assumption) | exact nA ok (by omega) (by omega) (by omega)) ?_) (by omega) (by first | decide | omega) ?_
  refine x_goto 22 dX6_secondAt_18 (by decide) ?_
  refine x_iret rfl dX6_secondAt_22 ?_
  exact ⟨rfl, rfl⟩
set_option maxRecDepth 100000 in
set_option maxHeartbeats 1000000 in
theorem ct_perform_0 {l : Launch} {G : Gl} {h : Hp} {N : Nat → Int32} {ns np no c : Nat} {f d : Nat → Int32} (ok : Ok G) (H : ShW G h 1000 N ns np no) (R : RsW G h c f d) (hm : h (Ad G 1) = some (.inr (9, [.ref (Ad G 1000), .ref (Ad G 2)]))) {cn ci : Nat} {att : Int32} {vf : Nat → Option Nat} {ff sf : Nat → Int32} (hs : h (Ad G 9) = some (eSc G (nI cn) att)) (h11 : h (Ad G 11) = some (eR G 7 10 vf)) (h12 : h (Ad G 12) = some (eI G 10 ff)) (h13 : h (Ad G 13) = some (eI G 10 sf)) (hci : ci < cn) (hcn : cn ≤ 10) (hv : vf ci = some (G.2.2.2 (3 + 0))) (AP : ∀ i, i < np → PotI N i) : Ct l G mX9_perform 8 (0) (0) [.ref (Ad G 1), .ref (Ad G 9), .int (nI ci)] h (fun w h' => w = some (.int (ansC (pRaise N (ff ci) (sf ci)))) ∧ SmP G h (pRaise N (ff ci) (sf ci)) N ns np no c f d h') := by
  refine Ct.of (L := [(0, _), (1, _), (2, _)]) (by decide) (ble rfl) rfl ?_
  first | refine x_aload_n 1 dX9_perform_0 rfl rfl ?_ | refine x_aload_nN 1 dX9_perform_0 rfl rfl ?_
  refine x_iload_n 2 dX9_perform_1 rfl rfl ?_
  refine x_cV1 (As := [.int _]) (ct_verbAt (v := 0) hs h11 h12 h13 hci hcn hv) vX9_173 rfl (x_recv (by with_reducible repeat first | assumption | exact hset_s | refine hget_n (by first | assumption | exact Ne.symm (by assumption) | exact nA ok (by omega) (by omega) (by omega)) ?_) rfl) rfl ⟨ble rfl, ble rfl⟩ (ble rfl) dX9_perform_2 rfl ?_
  first | refine x_astore_n (L' := [(3, _), (0, _), (1, _), (2, _)]) dX9_perform_5 rfl (ble rfl) rfl ?_ | refine x_astore_nN (L' := [(3, _), (0, _), (1, _), (2, _)]) dX9_perform_5 rfl (ble rfl) rfl ?_
  first | refine x_aload_n 2 dX9_perform_6 rfl rfl ?_ | refine x_aload_nN 2 dX9_perform_6 rfl rfl ?_
  refine x_iload_n 3 dX9_perform_7 rfl rfl ?_
  refine x_cV1 (As := [.int _]) (ct_firstAt hs h11 h12 h13 hci hcn) vX9_179 rfl (x_recv (by with_reducible repeat first | assumption | exact hset_s | refine hget_n (by first | assumption | exact Ne.symm (by assumption) | exact nA ok (by omega) (by omega) (by omega)) ?_) rfl) rfl ⟨ble rfl, ble rfl⟩ (ble rfl) dX9_perform_8 rfl ?_
  refine x_istore (L' := [(4, _), (3, _), (0, _), (1, _), (2, _)]) dX9_perform_11 (ble rfl) rfl ?_
  first | refine x_aload_n 3 dX9_perform_13 rfl rfl ?_ | refine x_aload_nN 3 dX9_perform_13 rfl rfl ?_
  refine x_iload_n 4 dX9_perform_14 rfl rfl ?_
  refine x_cV1 (As := [.int _]) (ct_secondAt hs h11 h12 h13 hci hcn) vX9_182 rfl (x_recv (by with_reducible repeat first | assumption | exact hset_s | refine hget_n (by first | assumption | exact Ne.symm (by assumption) | exact nA ok (by omega) (by omega) (by omega)) ?_) rfl) rfl ⟨ble rfl, ble rfl⟩ (ble rfl) dX9_perform_15 rfl ?_
  refine x_istore (L' := [(5, _), (4, _), (3, _), (0, _), (1, _), (2, _)]) dX9_perform_18 (ble rfl) rfl ?_
  first | refine x_aload_n 2 dX9_perform_20 rfl rfl ?_ | refine x_aload_nN 2 dX9_perform_20 rfl rfl ?_
  refine x_gets (zV_st (k := 0) (by decide) rfl) rfl oX9_185 dX9_perform_21 ?_
  refine x_acmp_ne 36 dX9_perform_24 (by decide) (fun z => by first | exact absurd z (fun z => z rfl) | exact absurd (fun z => z rfl) z) (fun _ => ?_)
  first | refine x_aload_n 3 dX9_perform_27 rfl rfl ?_ | refine x_aload_nN 3 dX9_perform_27 rfl rfl ?_
  refine x_iload 1 dX9_perform_28 rfl ?_
  refine x_iload 0 dX9_perform_30 rfl ?_
  refine x_pV1 (mc1 := 0) (ms1 := 0) (As := [.int _, .int _]) (ct_sRaise ok H R hm _ _) vX9_191 rfl (x_recv hm rfl) rfl ⟨ble rfl, ble rfl⟩ (ble rfl) dX9_perform_32 rfl ⟨by omega, by omega⟩ (fun h32 q32 => ?_)
  refine x_iret rfl dX9_perform_35 ?_
  exact ⟨rfl, q32⟩
set_option maxRecDepth 100000 in
set_option maxHeartbeats 1000000 in
theorem ct_perform_1 {l : Launch} {G : Gl} {h : Hp} {N : Nat → Int32} {ns np no c : Nat} {f d : Nat → Int32} (ok : Ok G) (H : ShW G h 1000 N ns np no) (R : RsW G h c f d) (hm : h (Ad G 1) = some (.inr (9, [.ref (Ad G 1000), .ref (Ad G 2)]))) {cn ci : Nat} {att : Int32} {vf : Nat → Option Nat} {ff sf : Nat → Int32} (hs : h (Ad G 9) = some (eSc G (nI cn) att)) (h11 : h (Ad G 11) = some (eR G 7 10 vf)) (h12 : h (Ad G 12) = some (eI G 10 ff)) (h13 : h (Ad G 13) = some (eI G 10 sf)) (hci : ci < cn) (hcn : cn ≤ 10) (hv : vf ci = some (G.2.2.2 (3 + 1))) (AP : ∀ i, i < np → PotI N i) : Ct l G mX9_perform 8 (0) (0) [.ref (Ad G 1), .ref (Ad G 9), .int (nI ci)] h (fun w h' => w = some (.int (ansC (pHit N (ff ci) (sf ci)))) ∧ SmP G h (pHit N (ff ci) (sf ci)) N ns np no c f d h') := by
  refine Ct.of (L := [(0, _), (1, _), (2, _)]) (by decide) (ble rfl) rfl ?_
  first | refine x_aload_n 1 dX9_perform_0 rfl rfl ?_ | refine x_aload_nN 1 dX9_perform_0 rfl rfl ?_
  refine x_iload_n 2 dX9_perform_1 rfl rfl ?_
  refine x_cV1 (As := [.int _]) (ct_verbAt (v := 1) hs h11 h12 h13 hci hcn hv) vX9_173 rfl (x_recv (by with_reducible repeat first | assumption | exact hset_s | refine hget_n (by first | assumption | exact Ne.symm (by assumption) | exact nA ok (by omega) (by omega) (by omega)) ?_) rfl) rfl ⟨ble rfl, ble rfl⟩ (ble rfl) dX9_perform_2 rfl ?_
  first | refine x_astore_n (L' := [(3, _), (0, _), (1, _), (2, _)]) dX9_perform_5 rfl (ble rfl) rfl ?_ | refine x_astore_nN (L' := [(3, _), (0, _), (1, _), (2, _)]) dX9_perform_5 rfl (ble rfl) rfl ?_
  first | refine x_aload_n 2 dX9_perform_6 rfl rfl ?_ | refine x_aload_nN 2 dX9_perform_6 rfl rfl ?_
  refine x_iload_n 3 dX9_perform_7 rfl rfl ?_
  refine x_cV1 (As := [.int _]) (ct_firstAt hs h11 h12 h13 hci hcn) vX9_179 rfl (x_recv (by with_reducible repeat first | assumption | exact hset_s | refine hget_n (by first | assumption | exact Ne.symm (by assumption) | exact nA ok (by omega) (by omega) (by omega)) ?_) rfl) rfl ⟨ble rfl, ble rfl⟩ (ble rfl) dX9_perform_8 rfl ?_
  refine x_istore (L' := [(4, _), (3, _), (0, _), (1, _), (2, _)]) dX9_perform_11 (ble rfl) rfl ?_
  first | refine x_aload_n 3 dX9_perform_13 rfl rfl ?_ | refine x_aload_nN 3 dX9_perform_13 rfl rfl ?_
  refine x_iload_n 4 dX9_perform_14 rfl rfl ?_
  refine x_cV1 (As := [.int _]) (ct_secondAt hs h11 h12 h13 hci hcn) vX9_182 rfl (x_recv (by with_reducible repeat first | assumption | exact hset_s | refine hget_n (by first | assumption | exact Ne.symm (by assumption) | exact nA ok (by omega) (by omega) (by omega)) ?_) rfl) rfl ⟨ble rfl, ble rfl⟩ (ble rfl) dX9_perform_15 rfl ?_
  refine x_istore (L' := [(5, _), (4, _), (3, _), (0, _), (1, _), (2, _)]) dX9_perform_18 (ble rfl) rfl ?_
  first | refine x_aload_n 2 dX9_perform_20 rfl rfl ?_ | refine x_aload_nN 2 dX9_perform_20 rfl rfl ?_
  refine x_gets (zV_st (k := 0) (by decide) rfl) rfl oX9_185 dX9_perform_21 ?_
  refine x_acmp_ne 36 dX9_perform_24 (by decide) (fun _ => ?_) (fun z => by first | exact absurd (show ¬ G.2.2.2 (3 + 1) = G.2.2.2 (3 + 0) from fun e => absurd (ok.2.2.2 1 0 (by omega) (by omega) e) (by decide)) z | exact absurd z (show ¬ G.2.2.2 (3 + 1) = G.2.2.2 (3 + 0) from fun e => absurd (ok.2.2.2 1 0 (by omega) (by omega) e) (by decide)))
  first | refine x_aload_n 2 dX9_perform_36 rfl rfl ?_ | refine x_aload_nN 2 dX9_perform_36 rfl rfl ?_
  refine x_gets (zV_st (k := 1) (by decide) rfl) rfl oX9_194 dX9_perform_37 ?_
  refine x_acmp_ne 52 dX9_perform_40 (by decide) (fun z => by first | exact absurd z (fun z => z rfl) | exact absurd (fun z => z rfl) z) (fun _ => ?_)
  first | refine x_aload_n 3 dX9_perform_43 rfl rfl ?_ | refine x_aload_nN 3 dX9_perform_43 rfl rfl ?_
  refine x_iload 1 dX9_perform_44 rfl ?_
  refine x_iload 0 dX9_perform_46 rfl ?_
  refine x_pV1 (mc1 := 0) (ms1 := 0) (As := [.int _, .int _]) (ct_sHit ok H R hm _ _) vX9_197 rfl (x_recv hm rfl) rfl ⟨ble rfl, ble rfl⟩ (ble rfl) dX9_perform_48 rfl ⟨by omega, by omega⟩ (fun h48 q48 => ?_)
  refine x_iret rfl dX9_perform_51 ?_
  exact ⟨rfl, q48⟩
set_option maxRecDepth 100000 in
set_option maxHeartbeats 1000000 in
theorem ct_perform_2 {l : Launch} {G : Gl} {h : Hp} {N : Nat → Int32} {ns np no c : Nat} {f d : Nat → Int32} (ok : Ok G) (H : ShW G h 1000 N ns np no) (R : RsW G h c f d) (hm : h (Ad G 1) = some (.inr (9, [.ref (Ad G 1000), .ref (Ad G 2)]))) {cn ci : Nat} {att : Int32} {vf : Nat → Option Nat} {ff sf : Nat → Int32} (hs : h (Ad G 9) = some (eSc G (nI cn) att)) (h11 : h (Ad G 11) = some (eR G 7 10 vf)) (h12 : h (Ad G 12) = some (eI G 10 ff)) (h13 : h (Ad G 13) = some (eI G 10 sf)) (hci : ci < cn) (hcn : cn ≤ 10) (hv : vf ci = some (G.2.2.2 (3 + 2))) (AP : ∀ i, i < np → PotI N i) : Ct l G mX9_perform 8 (0) (0) [.ref (Ad G 1), .ref (Ad G 9), .int (nI ci)] h (fun w h' => w = some (.int (ansC (pTin N (ff ci) (sf ci)))) ∧ SmP G h (pTin N (ff ci) (sf ci)) N ns np no c f d h') := by
  refine Ct.of (L := [(0, _), (1, _), (2, _)]) (by decide) (ble rfl) rfl ?_
  first | refine x_aload_n 1 dX9_perform_0 rfl rfl ?_ | refine x_aload_nN 1 dX9_perform_0 rfl rfl ?_
  refine x_iload_n 2 dX9_perform_1 rfl rfl ?_
  refine x_cV1 (As := [.int _]) (ct_verbAt (v := 2) hs h11 h12 h13 hci hcn hv) vX9_173 rfl (x_recv (by with_reducible repeat first | assumption | exact hset_s | refine hget_n (by first | assumption | exact Ne.symm (by assumption) | exact nA ok (by omega) (by omega) (by omega)) ?_) rfl) rfl ⟨ble rfl, ble rfl⟩ (ble rfl) dX9_perform_2 rfl ?_
  first | refine x_astore_n (L' := [(3, _), (0, _), (1, _), (2, _)]) dX9_perform_5 rfl (ble rfl) rfl ?_ | refine x_astore_nN (L' := [(3, _), (0, _), (1, _), (2, _)]) dX9_perform_5 rfl (ble rfl) rfl ?_
  first | refine x_aload_n 2 dX9_perform_6 rfl rfl ?_ | refine x_aload_nN 2 dX9_perform_6 rfl rfl ?_
  refine x_iload_n 3 dX9_perform_7 rfl rfl ?_
  refine x_cV1 (As := [.int _]) (ct_firstAt hs h11 h12 h13 hci hcn) vX9_179 rfl (x_recv (by with_reducible repeat first | assumption | exact hset_s | refine hget_n (by first | assumption | exact Ne.symm (by assumption) | exact nA ok (by omega) (by omega) (by omega)) ?_) rfl) rfl ⟨ble rfl, ble rfl⟩ (ble rfl) dX9_perform_8 rfl ?_
  refine x_istore (L' := [(4, _), (3, _), (0, _), (1, _), (2, _)]) dX9_perform_11 (ble rfl) rfl ?_
  first | refine x_aload_n 3 dX9_perform_13 rfl rfl ?_ | refine x_aload_nN 3 dX9_perform_13 rfl rfl ?_
  refine x_iload_n 4 dX9_perform_14 rfl rfl ?_
  refine x_cV1 (As := [.int _]) (ct_secondAt hs h11 h12 h13 hci hcn) vX9_182 rfl (x_recv (by with_reducible repeat first | assumption | exact hset_s | refine hget_n (by first | assumption | exact Ne.symm (by assumption) | exact nA ok (by omega) (by omega) (by omega)) ?_) rfl) rfl ⟨ble rfl, ble rfl⟩ (ble rfl) dX9_perform_15 rfl ?_
  refine x_istore (L' := [(5, _), (4, _), (3, _), (0, _), (1, _), (2, _)]) dX9_perform_18 (ble rfl) rfl ?_
  first | refine x_aload_n 2 dX9_perform_20 rfl rfl ?_ | refine x_aload_nN 2 dX9_perform_20 rfl rfl ?_
  refine x_gets (zV_st (k := 0) (by decide) rfl) rfl oX9_185 dX9_perform_21 ?_
  refine x_acmp_ne 36 dX9_perform_24 (by decide) (fun _ => ?_) (fun z => by first | exact absurd (show ¬ G.2.2.2 (3 + 2) = G.2.2.2 (3 + 0) from fun e => absurd (ok.2.2.2 2 0 (by omega) (by omega) e) (by decide)) z | exact absurd z (show ¬ G.2.2.2 (3 + 2) = G.2.2.2 (3 + 0) from fun e => absurd (ok.2.2.2 2 0 (by omega) (by omega) e) (by decide)))
  first | refine x_aload_n 2 dX9_perform_36 rfl rfl ?_ | refine x_aload_nN 2 dX9_perform_36 rfl rfl ?_
  refine x_gets (zV_st (k := 1) (by decide) rfl) rfl oX9_194 dX9_perform_37 ?_
  refine x_acmp_ne 52 dX9_perform_40 (by decide) (fun _ => ?_) (fun z => by first | exact absurd (show ¬ G.2.2.2 (3 + 2) = G.2.2.2 (3 + 1) from fun e => absurd (ok.2.2.2 2 1 (by omega) (by omega) e) (by decide)) z | exact absurd z (show ¬ G.2.2.2 (3 + 2) = G.2.2.2 (3 + 1) from fun e => absurd (ok.2.2.2 2 1 (by omega) (by omega) e) (by decide)))
  first | refine x_aload_n 2 dX9_perform_52 rfl rfl ?_ | refine x_aload_nN 2 dX9_perform_52 rfl rfl ?_
  refine x_gets (zV_st (k := 2) (by decide) rfl) rfl oX9_200 dX9_perform_53 ?_
  refine x_acmp_ne 68 dX9_perform_56 (by decide) (fun z => by first | exact absurd z (fun z => z rfl) | exact absurd (fun z => z rfl) z) (fun _ => ?_)
  first | refine x_aload_n 3 dX9_perform_59 rfl rfl ?_ | refine x_aload_nN 3 dX9_perform_59 rfl rfl ?_
  refine x_iload 1 dX9_perform_60 rfl ?_
  refine x_iload 0 dX9_perform_62 rfl ?_
  refine x_pV1 (mc1 := 0) (ms1 := 0) (As := [.int _, .int _]) (ct_sTin ok H R hm _ _) vX9_203 rfl (x_recv hm rfl) rfl ⟨ble rfl, ble rfl⟩ (ble rfl) dX9_perform_64 rfl ⟨by omega, by omega⟩ (fun h64 q64 => ?_)
  refine x_iret rfl dX9_perform_67 ?_
  exact ⟨rfl, q64⟩
set_option maxRecDepth 100000 in
set_option maxHeartbeats 1000000 in
theorem ct_perform_3 {l : Launch} {G : Gl} {h : Hp} {N : Nat → Int32} {ns np no c : Nat} {f d : Nat → Int32} (ok : Ok G) (H : ShW G h 1000 N ns np no) (R : RsW G h c f d) (hm : h (Ad G 1) = some (.inr (9, [.ref (Ad G 1000), .ref (Ad G 2)]))) {cn ci : Nat} {att : Int32} {vf : Nat → Option Nat} {ff sf : Nat → Int32} (hs : h (Ad G 9) = some (eSc G (nI cn) att)) (h11 : h (Ad G 11) = some (eR G 7 10 vf)) (h12 : h (Ad G 12) = some (eI G 10 ff)) (h13 : h (Ad G 13) = some (eI G 10 sf)) (hci : ci < cn) (hcn : cn ≤ 10) (hv : vf ci = some (G.2.2.2 (3 + 3))) (AP : ∀ i, i < np → PotI N i) : Ct l G mX9_perform 8 (0) (0) [.ref (Ad G 1), .ref (Ad G 9), .int (nI ci)] h (fun w h' => w = some (.int (ansC (pCook N (ff ci) (sf ci)))) ∧ SmP G h (pCook N (ff ci) (sf ci)) N ns np no c f d h') := by
  refine Ct.of (L := [(0, _), (1, _), (2, _)]) (by decide) (ble rfl) rfl ?_
  first | refine x_aload_n 1 dX9_perform_0 rfl rfl ?_ | refine x_aload_nN 1 dX9_perform_0 rfl rfl ?_
  refine x_iload_n 2 dX9_perform_1 rfl rfl ?_
  refine x_cV1 (As := [.int _]) (ct_verbAt (v := 3) hs h11 h12 h13 hci hcn hv) vX9_173 rfl (x_recv (by with_reducible repeat first | assumption | exact hset_s | refine hget_n (by first | assumption | exact Ne.symm (by assumption) | exact nA ok (by omega) (by omega) (by omega)) ?_) rfl) rfl ⟨ble rfl, ble rfl⟩ (ble rfl) dX9_perform_2 rfl ?_
  first | refine x_astore_n (L' := [(3, _), (0, _), (1, _), (2, _)]) dX9_perform_5 rfl (ble rfl) rfl ?_ | refine x_astore_nN (L' := [(3, _), (0, _), (1, _), (2, _)]) dX9_perform_5 rfl (ble rfl) rfl ?_
  first | refine x_aload_n 2 dX9_perform_6 rfl rfl ?_ | refine x_aload_nN 2 dX9_perform_6 rfl rfl ?_
  refine x_iload_n 3 dX9_perform_7 rfl rfl ?_
  refine x_cV1 (As := [.int _]) (ct_firstAt hs h11 h12 h13 hci hcn) vX9_179 rfl (x_recv (by with_reducible repeat first | assumption | exact hset_s | refine hget_n (by first | assumption | exact Ne.symm (by assumption) | exact nA ok (by omega) (by omega) (by omega)) ?_) rfl) rfl ⟨ble rfl, ble rfl⟩ (ble rfl) dX9_perform_8 rfl ?_
  refine x_istore (L' := [(4, _), (3, _), (0, _), (1, _), (2, _)]) dX9_perform_11 (ble rfl) rfl ?_
  first | refine x_aload_n 3 dX9_perform_13 rfl rfl ?_ | refine x_aload_nN 3 dX9_perform_13 rfl rfl ?_
  refine x_iload_n 4 dX9_perform_14 rfl rfl ?_
  refine x_cV1 (As := [.int _]) (ct_secondAt hs h11 h12 h13 hci hcn) vX9_182 rfl (x_recv (by with_reducible repeat first | assumption | exact hset_s | refine hget_n (by first | assumption | exact Ne.symm (by assumption) | exact nA ok (by omega) (by omega) (by omega)) ?_) rfl) rfl ⟨ble rfl, ble rfl⟩ (ble rfl) dX9_perform_15 rfl ?_
  refine x_istore (L' := [(5, _), (4, _), (3, _), (0, _), (1, _), (2, _)]) dX9_perform_18 (ble rfl) rfl ?_
  first | refine x_aload_n 2 dX9_perform_20 rfl rfl ?_ | refine x_aload_nN 2 dX9_perform_20 rfl rfl ?_
  refine x_gets (zV_st (k := 0) (by decide) rfl) rfl oX9_185 dX9_perform_21 ?_
  refine x_acmp_ne 36 dX9_perform_24 (by decide) (fun _ => ?_) (fun z => by first | exact absurd (show ¬ G.2.2.2 (3 + 3) = G.2.2.2 (3 + 0) from fun e => absurd (ok.2.2.2 3 0 (by omega) (by omega) e) (by decide)) z | exact absurd z (show ¬ G.2.2.2 (3 + 3) = G.2.2.2 (3 + 0) from fun e => absurd (ok.2.2.2 3 0 (by omega) (by omega) e) (by decide)))
  first | refine x_aload_n 2 dX9_perform_36 rfl rfl ?_ | refine x_aload_nN 2 dX9_perform_36 rfl rfl ?_
  refine x_gets (zV_st (k := 1) (by decide) rfl) rfl oX9_194 dX9_perform_37 ?_
  refine x_acmp_ne 52 dX9_perform_40 (by decide) (fun _ => ?_) (fun z => by first | exact absurd (show ¬ G.2.2.2 (3 + 3) = G.2.2.2 (3 + 1) from fun e => absurd (ok.2.2.2 3 1 (by omega) (by omega) e) (by decide)) z | exact absurd z (show ¬ G.2.2.2 (3 + 3) = G.2.2.2 (3 + 1) from fun e => absurd (ok.2.2.2 3 1 (by omega) (by omega) e) (by decide)))
  first | refine x_aload_n 2 dX9_perform_52 rfl rfl ?_ | refine x_aload_nN 2 dX9_perform_52 rfl rfl ?_
  refine x_gets (zV_st (k := 2) (by decide) rfl) rfl oX9_200 dX9_perform_53 ?_
  refine x_acmp_ne 68 dX9_perform_56 (by decide) (fun _ => ?_) (fun z => by first | exact absurd (show ¬ G.2.2.2 (3 + 3) = G.2.2.2 (3 + 2) from fun e => absurd (ok.2.2.2 3 2 (by omega) (by omega) e) (by decide)) z | exact absurd z (show ¬ G.2.2.2 (3 + 3) = G.2.2.2 (3 + 2) from fun e => absurd (ok.2.2.2 3 2 (by omega) (by omega) e) (by decide)))
  first | refine x_aload_n 2 dX9_perform_68 rfl rfl ?_ | refine x_aload_nN 2 dX9_perform_68 rfl rfl ?_
  refine x_gets (zV_st (k := 3) (by decide) rfl) rfl oX9_206 dX9_perform_69 ?_
  refine x_acmp_ne 84 dX9_perform_72 (by decide) (fun z => by first | exact absurd z (fun z => z rfl) | exact absurd (fun z => z rfl) z) (fun _ => ?_)
  first | refine x_aload_n 3 dX9_perform_75 rfl rfl ?_ | refine x_aload_nN 3 dX9_perform_75 rfl rfl ?_
  refine x_iload 1 dX9_perform_76 rfl ?_
  refine x_iload 0 dX9_perform_78 rfl ?_
  refine x_pV1 (mc1 := 0) (ms1 := 0) (As := [.int _, .int _]) (ct_sCook ok H R hm AP _ _) vX9_209 rfl (x_recv hm rfl) rfl ⟨ble rfl, ble rfl⟩ (ble rfl) dX9_perform_80 rfl ⟨by omega, by omega⟩ (fun h80 q80 => ?_)
  refine x_iret rfl dX9_perform_83 ?_
  exact ⟨rfl, q80⟩
set_option maxRecDepth 100000 in
set_option maxHeartbeats 1000000 in
theorem ct_perform_4 {l : Launch} {G : Gl} {h : Hp} {N : Nat → Int32} {ns np no c : Nat} {f d : Nat → Int32} (ok : Ok G) (H : ShW G h 1000 N ns np no) (R : RsW G h c f d) (hm : h (Ad G 1) = some (.inr (9, [.ref (Ad G 1000), .ref (Ad G 2)]))) {cn ci : Nat} {att : Int32} {vf : Nat → Option Nat} {ff sf : Nat → Int32} (hs : h (Ad G 9) = some (eSc G (nI cn) att)) (h11 : h (Ad G 11) = some (eR G 7 10 vf)) (h12 : h (Ad G 12) = some (eI G 10 ff)) (h13 : h (Ad G 13) = some (eI G 10 sf)) (hci : ci < cn) (hcn : cn ≤ 10) (hv : vf ci = some (G.2.2.2 (3 + 4))) (AP : ∀ i, i < np → PotI N i) : Ct l G mX9_perform 8 (0) (0) [.ref (Ad G 1), .ref (Ad G 9), .int (nI ci)] h (fun w h' => w = some (.int (ansC (pSell N (ff ci) (sf ci)))) ∧ SmP G h (pSell N (ff ci) (sf ci)) N ns np no c f d h') := by
  refine Ct.of (L := [(0, _), (1, _), (2, _)]) (by decide) (ble rfl) rfl ?_
  first | refine x_aload_n 1 dX9_perform_0 rfl rfl ?_ | refine x_aload_nN 1 dX9_perform_0 rfl rfl ?_
  refine x_iload_n 2 dX9_perform_1 rfl rfl ?_
  refine x_cV1 (As := [.int _]) (ct_verbAt (v := 4) hs h11 h12 h13 hci hcn hv) vX9_173 rfl (x_recv (by with_reducible repeat first | assumption | exact hset_s | refine hget_n (by first | assumption | exact Ne.symm (by assumption) | exact nA ok (by omega) (by omega) (by omega)) ?_) rfl) rfl ⟨ble rfl, ble rfl⟩ (ble rfl) dX9_perform_2 rfl ?_
  first | refine x_astore_n (L' := [(3, _), (0, _), (1, _), (2, _)]) dX9_perform_5 rfl (ble rfl) rfl ?_ | refine x_astore_nN (L' := [(3, _), (0, _), (1, _), (2, _)]) dX9_perform_5 rfl (ble rfl) rfl ?_
  first | refine x_aload_n 2 dX9_perform_6 rfl rfl ?_ | refine x_aload_nN 2 dX9_perform_6 rfl rfl ?_
  refine x_iload_n 3 dX9_perform_7 rfl rfl ?_
  refine x_cV1 (As := [.int _]) (ct_firstAt hs h11 h12 h13 hci hcn) vX9_179 rfl (x_recv (by with_reducible repeat first | assumption | exact hset_s | refine hget_n (by first | assumption | exact Ne.symm (by assumption) | exact nA ok (by omega) (by omega) (by omega)) ?_) rfl) rfl ⟨ble rfl, ble rfl⟩ (ble rfl) dX9_perform_8 rfl ?_
  refine x_istore (L' := [(4, _), (3, _), (0, _), (1, _), (2, _)]) dX9_perform_11 (ble rfl) rfl ?_
  first | refine x_aload_n 3 dX9_perform_13 rfl rfl ?_ | refine x_aload_nN 3 dX9_perform_13 rfl rfl ?_
  refine x_iload_n 4 dX9_perform_14 rfl rfl ?_
  refine x_cV1 (As := [.int _]) (ct_secondAt hs h11 h12 h13 hci hcn) vX9_182 rfl (x_recv (by with_reducible repeat first | assumption | exact hset_s | refine hget_n (by first | assumption | exact Ne.symm (by assumption) | exact nA ok (by omega) (by omega) (by omega)) ?_) rfl) rfl ⟨ble rfl, ble rfl⟩ (ble rfl) dX9_perform_15 rfl ?_
  refine x_istore (L' := [(5, _), (4, _), (3, _), (0, _), (1, _), (2, _)]) dX9_perform_18 (ble rfl) rfl ?_
  first | refine x_aload_n 2 dX9_perform_20 rfl rfl ?_ | refine x_aload_nN 2 dX9_perform_20 rfl rfl ?_
  refine x_gets (zV_st (k := 0) (by decide) rfl) rfl oX9_185 dX9_perform_21 ?_
  refine x_acmp_ne 36 dX9_perform_24 (by decide) (fun _ => ?_) (fun z => by first | exact absurd (show ¬ G.2.2.2 (3 + 4) = G.2.2.2 (3 + 0) from fun e => absurd (ok.2.2.2 4 0 (by omega) (by omega) e) (by decide)) z | exact absurd z (show ¬ G.2.2.2 (3 + 4) = G.2.2.2 (3 + 0) from fun e => absurd (ok.2.2.2 4 0 (by omega) (by omega) e) (by decide)))
  first | refine x_aload_n 2 dX9_perform_36 rfl rfl ?_ | refine x_aload_nN 2 dX9_perform_36 rfl rfl ?_
  refine x_gets (zV_st (k := 1) (by decide) rfl) rfl oX9_194 dX9_perform_37 ?_
  refine x_acmp_ne 52 dX9_perform_40 (by decide) (fun _ => ?_) (fun z => by first | exact absurd (show ¬ G.2.2.2 (3 + 4) = G.2.2.2 (3 + 1) from fun e => absurd (ok.2.2.2 4 1 (by omega) (by omega) e) (by decide)) z | exact absurd z (show ¬ G.2.2.2 (3 + 4) = G.2.2.2 (3 + 1) from fun e => absurd (ok.2.2.2 4 1 (by omega) (by omega) e) (by decide)))
  first | refine x_aload_n 2 dX9_perform_52 rfl rfl ?_ | refine x_aload_nN 2 dX9_perform_52 rfl rfl ?_
  refine x_gets (zV_st (k := 2) (by decide) rfl) rfl oX9_200 dX9_perform_53 ?_
  refine x_acmp_ne 68 dX9_perform_56 (by decide) (fun _ => ?_) (fun z => by first | exact absurd (show ¬ G.2.2.2 (3 + 4) = G.2.2.2 (3 + 2) from fun e => absurd (ok.2.2.2 4 2 (by omega) (by omega) e) (by decide)) z | exact absurd z (show ¬ G.2.2.2 (3 + 4) = G.2.2.2 (3 + 2) from fun e => absurd (ok.2.2.2 4 2 (by omega) (by omega) e) (by decide)))
  first | refine x_aload_n 2 dX9_perform_68 rfl rfl ?_ | refine x_aload_nN 2 dX9_perform_68 rfl rfl ?_
  refine x_gets (zV_st (k := 3) (by decide) rfl) rfl oX9_206 dX9_perform_69 ?_
  refine x_acmp_ne 84 dX9_perform_72 (by decide) (fun _ => ?_) (fun z => by first | exact absurd (show ¬ G.2.2.2 (3 + 4) = G.2.2.2 (3 + 3) from fun e => absurd (ok.2.2.2 4 3 (by omega) (by omega) e) (by decide)) z | exact absurd z (show ¬ G.2.2.2 (3 + 4) = G.2.2.2 (3 + 3) from fun e => absurd (ok.2.2.2 4 3 (by omega) (by omega) e) (by decide)))
  first | refine x_aload_n 2 dX9_perform_84 rfl rfl ?_ | refine x_aload_nN 2 dX9_perform_84 rfl rfl ?_
  refine x_gets (zV_st (k := 4) (by decide) rfl) rfl oX9_212 dX9_perform_85 ?_
  refine x_acmp_ne 102 dX9_perform_88 (by decide) (fun z => by first | exact absurd z (fun z => z rfl) | exact absurd (fun z => z rfl) z) (fun _ => ?_)
  first | refine x_aload_n 3 dX9_perform_91 rfl rfl ?_ | refine x_aload_nN 3 dX9_perform_91 rfl rfl ?_
  refine x_iload 1 dX9_perform_92 rfl ?_
  refine x_iload 0 dX9_perform_94 rfl ?_
  refine x_pV1 (mc1 := 0) (ms1 := 0) (As := [.int _, .int _]) (ct_sSell ok H R hm _ _) vX9_215 rfl (x_recv hm rfl) rfl ⟨ble rfl, ble rfl⟩ (ble rfl) dX9_perform_96 rfl ⟨by omega, by omega⟩ (fun h96 q96 => ?_)
  refine x_goto 108 dX9_perform_99 (by decide) ?_
  refine x_iret rfl dX9_perform_108 ?_
  exact ⟨rfl, q96⟩
set_option maxRecDepth 100000 in
set_option maxHeartbeats 1000000 in
theorem ct_perform_5 {l : Launch} {G : Gl} {h : Hp} {N : Nat → Int32} {ns np no c : Nat} {f d : Nat → Int32} (ok : Ok G) (H : ShW G h 1000 N ns np no) (R : RsW G h c f d) (hm : h (Ad G 1) = some (.inr (9, [.ref (Ad G 1000), .ref (Ad G 2)]))) {cn ci : Nat} {att : Int32} {vf : Nat → Option Nat} {ff sf : Nat → Int32} (hs : h (Ad G 9) = some (eSc G (nI cn) att)) (h11 : h (Ad G 11) = some (eR G 7 10 vf)) (h12 : h (Ad G 12) = some (eI G 10 ff)) (h13 : h (Ad G 13) = some (eI G 10 sf)) (hci : ci < cn) (hcn : cn ≤ 10) (hv : vf ci = some (G.2.2.2 (3 + 5))) (AP : ∀ i, i < np → PotI N i) : Ct l G mX9_perform 8 (0) (0) [.ref (Ad G 1), .ref (Ad G 9), .int (nI ci)] h (fun w h' => w = some (.int (ansC (pBars N (ff ci)))) ∧ SmP G h (pBars N (ff ci)) N ns np no c f d h') := by
  refine Ct.of (L := [(0, _), (1, _), (2, _)]) (by decide) (ble rfl) rfl ?_
  first | refine x_aload_n 1 dX9_perform_0 rfl rfl ?_ | refine x_aload_nN 1 dX9_perform_0 rfl rfl ?_
  refine x_iload_n 2 dX9_perform_1 rfl rfl ?_
  refine x_cV1 (As := [.int _]) (ct_verbAt (v := 5) hs h11 h12 h13 hci hcn hv) vX9_173 rfl (x_recv (by with_reducible repeat first | assumption | exact hset_s | refine hget_n (by first | assumption | exact Ne.symm (by assumption) | exact nA ok (by omega) (by omega) (by omega)) ?_) rfl) rfl ⟨ble rfl, ble rfl⟩ (ble rfl) dX9_perform_2 rfl ?_
  first | refine x_astore_n (L' := [(3, _), (0, _), (1, _), (2, _)]) dX9_perform_5 rfl (ble rfl) rfl ?_ | refine x_astore_nN (L' := [(3, _), (0, _), (1, _), (2, _)]) dX9_perform_5 rfl (ble rfl) rfl ?_
  first | refine x_aload_n 2 dX9_perform_6 rfl rfl ?_ | refine x_aload_nN 2 dX9_perform_6 rfl rfl ?_
  refine x_iload_n 3 dX9_perform_7 rfl rfl ?_
  refine x_cV1 (As := [.int _]) (ct_firstAt hs h11 h12 h13 hci hcn) vX9_179 rfl (x_recv (by with_reducible repeat first | assumption | exact hset_s | refine hget_n (by first | assumption | exact Ne.symm (by assumption) | exact nA ok (by omega) (by omega) (by omega)) ?_) rfl) rfl ⟨ble rfl, ble rfl⟩ (ble rfl) dX9_perform_8 rfl ?_
  refine x_istore (L' := [(4, _), (3, _), (0, _), (1, _), (2, _)]) dX9_perform_11 (ble rfl) rfl ?_
  first | refine x_aload_n 3 dX9_perform_13 rfl rfl ?_ | refine x_aload_nN 3 dX9_perform_13 rfl rfl ?_
  refine x_iload_n 4 dX9_perform_14 rfl rfl ?_
  refine x_cV1 (As := [.int _]) (ct_secondAt hs h11 h12 h13 hci hcn) vX9_182 rfl (x_recv (by with_reducible repeat first | assumption | exact hset_s | refine hget_n (by first | assumption | exact Ne.symm (by assumption) | exact nA ok (by omega) (by omega) (by omega)) ?_) rfl) rfl ⟨ble rfl, ble rfl⟩ (ble rfl) dX9_perform_15 rfl ?_
  refine x_istore (L' := [(5, _), (4, _), (3, _), (0, _), (1, _), (2, _)]) dX9_perform_18 (ble rfl) rfl ?_
  first | refine x_aload_n 2 dX9_perform_20 rfl rfl ?_ | refine x_aload_nN 2 dX9_perform_20 rfl rfl ?_
  refine x_gets (zV_st (k := 0) (by decide) rfl) rfl oX9_185 dX9_perform_21 ?_
  refine x_acmp_ne 36 dX9_perform_24 (by decide) (fun _ => ?_) (fun z => by first | exact absurd (show ¬ G.2.2.2 (3 + 5) = G.2.2.2 (3 + 0) from fun e => absurd (ok.2.2.2 5 0 (by omega) (by omega) e) (by decide)) z | exact absurd z (show ¬ G.2.2.2 (3 + 5) = G.2.2.2 (3 + 0) from fun e => absurd (ok.2.2.2 5 0 (by omega) (by omega) e) (by decide)))
  first | refine x_aload_n 2 dX9_perform_36 rfl rfl ?_ | refine x_aload_nN 2 dX9_perform_36 rfl rfl ?_
  refine x_gets (zV_st (k := 1) (by decide) rfl) rfl oX9_194 dX9_perform_37 ?_
  refine x_acmp_ne 52 dX9_perform_40 (by decide) (fun _ => ?_) (fun z => by first | exact absurd (show ¬ G.2.2.2 (3 + 5) = G.2.2.2 (3 + 1) from fun e => absurd (ok.2.2.2 5 1 (by omega) (by omega) e) (by decide)) z | exact absurd z (show ¬ G.2.2.2 (3 + 5) = G.2.2.2 (3 + 1) from fun e => absurd (ok.2.2.2 5 1 (by omega) (by omega) e) (by decide)))
  first | refine x_aload_n 2 dX9_perform_52 rfl rfl ?_ | refine x_aload_nN 2 dX9_perform_52 rfl rfl ?_
  refine x_gets (zV_st (k := 2) (by decide) rfl) rfl oX9_200 dX9_perform_53 ?_
  refine x_acmp_ne 68 dX9_perform_56 (by decide) (fun _ => ?_) (fun z => by first | exact absurd (show ¬ G.2.2.2 (3 + 5) = G.2.2.2 (3 + 2) from fun e => absurd (ok.2.2.2 5 2 (by omega) (by omega) e) (by decide)) z | exact absurd z (show ¬ G.2.2.2 (3 + 5) = G.2.2.2 (3 + 2) from fun e => absurd (ok.2.2.2 5 2 (by omega) (by omega) e) (by decide)))
  first | refine x_aload_n 2 dX9_perform_68 rfl rfl ?_ | refine x_aload_nN 2 dX9_perform_68 rfl rfl ?_
  refine x_gets (zV_st (k := 3) (by decide) rfl) rfl oX9_206 dX9_perform_69 ?_
  refine x_acmp_ne 84 dX9_perform_72 (by decide) (fun _ => ?_) (fun z => by first | exact absurd (show ¬ G.2.2.2 (3 + 5) = G.2.2.2 (3 + 3) from fun e => absurd (ok.2.2.2 5 3 (by omega) (by omega) e) (by decide)) z | exact absurd z (show ¬ G.2.2.2 (3 + 5) = G.2.2.2 (3 + 3) from fun e => absurd (ok.2.2.2 5 3 (by omega) (by omega) e) (by decide)))
  first | refine x_aload_n 2 dX9_perform_84 rfl rfl ?_ | refine x_aload_nN 2 dX9_perform_84 rfl rfl ?_
  refine x_gets (zV_st (k := 4) (by decide) rfl) rfl oX9_212 dX9_perform_85 ?_
  refine x_acmp_ne 102 dX9_perform_88 (by decide) (fun _ => ?_) (fun z => by first | exact absurd (show ¬ G.2.2.2 (3 + 5) = G.2.2.2 (3 + 4) from fun e => absurd (ok.2.2.2 5 4 (by omega) (by omega) e) (by decide)) z | exact absurd z (show ¬ G.2.2.2 (3 + 5) = G.2.2.2 (3 + 4) from fun e => absurd (ok.2.2.2 5 4 (by omega) (by omega) e) (by decide)))
  first | refine x_aload_n 3 dX9_perform_102 rfl rfl ?_ | refine x_aload_nN 3 dX9_perform_102 rfl rfl ?_
  refine x_iload 1 dX9_perform_103 rfl ?_
  refine x_pV1 (mc1 := 0) (ms1 := 0) (As := [.int _]) (ct_X9_buyBars ok H R hm _) vX9_218 rfl (x_recv hm rfl) rfl ⟨ble rfl, ble rfl⟩ (ble rfl) dX9_perform_105 rfl ⟨by omega, by omega⟩ (fun h105 q105 => ?_)
  refine x_iret rfl dX9_perform_108 ?_
  exact ⟨rfl, q105⟩
set_option maxRecDepth 100000 in
theorem ct_perform {l : Launch} {G : Gl} {h : Hp} {N : Nat → Int32} {ns np no c : Nat} {f d : Nat → Int32} (ok : Ok G) (H : ShW G h 1000 N ns np no) (R : RsW G h c f d) (hm : h (Ad G 1) = some (.inr (9, [.ref (Ad G 1000), .ref (Ad G 2)]))) {cn ci : Nat} {att : Int32} {vf : Nat → Option Nat} {ff sf : Nat → Int32} (hs : h (Ad G 9) = some (eSc G (nI cn) att)) (h11 : h (Ad G 11) = some (eR G 7 10 vf)) (h12 : h (Ad G 12) = some (eI G 10 ff)) (h13 : h (Ad G 13) = some (eI G 10 sf)) (hci : ci < cn) (hcn : cn ≤ 10) {q : Nat × Int32 × Int32} (hq : q.1 < 6) (hv : vf ci = some (G.2.2.2 (3 + q.1))) (hf : ff ci = q.2.1) (hs2 : q.1 < 5 → sf ci = q.2.2) (AP : ∀ i, i < np → PotI N i) : Ct l G mX9_perform 8 0 0 [.ref (Ad G 1), .ref (Ad G 9), .int (nI ci)] h (fun w h' => w = some (.int (ansC (pDo N q))) ∧ SmP G h (pDo N q) N ns np no c f d h') := by
  obtain ⟨v, a, b⟩ := q
  dsimp only at hq hv hf hs2
  rcases (show v = 0 ∨ v = 1 ∨ v = 2 ∨ v = 3 ∨ v = 4 ∨ v = 5 by omega) with rfl | rfl | rfl | rfl | rfl | rfl
  · rw [show pDo N (0, a, b) = pRaise N a b by simp [pDo], ← hf, ← hs2 (by omega)]; exact ct_perform_0 ok H R hm hs h11 h12 h13 hci hcn hv AP
  · rw [show pDo N (1, a, b) = pHit N a b by simp [pDo], ← hf, ← hs2 (by omega)]; exact ct_perform_1 ok H R hm hs h11 h12 h13 hci hcn hv AP
  · rw [show pDo N (2, a, b) = pTin N a b by simp [pDo], ← hf, ← hs2 (by omega)]; exact ct_perform_2 ok H R hm hs h11 h12 h13 hci hcn hv AP
  · rw [show pDo N (3, a, b) = pCook N a b by simp [pDo], ← hf, ← hs2 (by omega)]; exact ct_perform_3 ok H R hm hs h11 h12 h13 hci hcn hv AP
  · rw [show pDo N (4, a, b) = pSell N a b by simp [pDo], ← hf, ← hs2 (by omega)]; exact ct_perform_4 ok H R hm hs h11 h12 h13 hci hcn hv AP
  · rw [show pDo N (5, a, b) = pBars N a by simp [pDo], ← hf]; exact ct_perform_5 ok H R hm hs h11 h12 h13 hci hcn hv AP
