set_option maxRecDepth 100000 in
set_option maxHeartbeats 1000000 in
theorem ct_xread_n {l : Launch} {G : Gl} {h : Hp} (ok : Ok G) {isv flt : Int32} (hst : h (Ad G 0) = some (eSt G isv flt)) {cn0 a0 : Nat} {vf : Nat → Option Nat} {ff sf : Nat → Int32} (hs : h (Ad G 9) = some (eSc G (nI cn0) (nI a0))) (h11 : h (Ad G 11) = some (eR G 7 10 vf)) (h12 : h (Ad G 12) = some (eI G 10 ff)) (h13 : h (Ad G 13) = some (eI G 10 sf)) {tx : List Int32} (hA : Asc tx) (h60 : tx.length ≤ 60) {b : Nat} (hbn : ∀ i, nmU i → Ad G i ≠ b) (T : SBT G h (Ad G 10) tx b) {p k : Nat} (Tx : TxF tx p 0 k) : Ct l G mX11_read 13 (0) (0) [.ref (Ad G 0)] h (fun w h' => w = some (.int (-2)) ∧ h' (Ad G 0) = some (eSt G isv (nI p)) ∧ (∃ (vf : Nat → Option Nat) (ff sf : Nat → Int32) (cn at' : Nat), h' (Ad G 9) = some (eSc G (nI cn) (nI at')) ∧ h' (Ad G 11) = some (eR G 7 10 vf) ∧ h' (Ad G 12) = some (eI G 10 ff) ∧ h' (Ad G 13) = some (eI G 10 sf)) ∧ SBT G h' (Ad G 10) [] b ∧ Fr (fun x => x = Ad G 0 ∨ x = Ad G 10 ∨ x = Ad G 9 ∨ x = Ad G 11 ∨ x = Ad G 12 ∨ x = Ad G 13) h h') := by
  refine Ct.of (L := [(0, _)]) (by decide) (ble rfl) rfl ?_
  refine x_bipush (v := -2) dX11_read_0 rfl ?_
  refine x_istore_n (L' := [(1, _), (0, _)]) dX11_read_2 rfl (ble rfl) rfl ?_
  first | refine x_aload_n 1 dX11_read_3 rfl rfl ?_ | refine x_aload_nN 1 dX11_read_3 rfl rfl ?_
  refine x_get fX11_49 rfl dX11_read_4 (by with_reducible repeat first | assumption | exact hset_s | refine hget_n (by first | assumption | exact Ne.symm (by assumption) | exact nA ok (by omega) (by omega) (by omega)) ?_) (by rfl) ?_
  refine x_callW (mc1 := 0) (ms1 := 0) (As := []) (ct_isRight_n ok hs h11 h12 h13 hA h60 hbn T Tx) vX11_115 rfl (x_recv hs rfl) rfl ⟨ble rfl, ble rfl⟩ (ble rfl) dX11_read_7 rfl ⟨by omega, by omega⟩ (fun w h1 q1 => ?_)
  obtain ⟨rfl, vf1, ff1, sf1, cn1, at1, ⟨g9, g11, g12, g13⟩, F1, rfl⟩ := q1
  have T1 := T.fr F1 (by rintro (e | e | e | e) <;> exact nA ok (by omega) (by omega) (by omega) e) (by rintro (e | e | e | e) <;> exact hbn _ (Or.inl (by omega)) e.symm)
  have hst1 := F1 _ _ hst (by rintro (e | e | e | e) <;> exact nA ok (by omega) (by omega) (by omega) e)
  refine x_if_eq 36 dX11_read_10 (by decide) (fun _ => ?_) (fun z => by first | exact absurd (rfl) z | exact absurd z (rfl))
  first | refine x_aload_n 1 dX11_read_36 rfl rfl ?_ | refine x_aload_nN 1 dX11_read_36 rfl rfl ?_
  first | refine x_aload_n 1 dX11_read_37 rfl rfl ?_ | refine x_aload_nN 1 dX11_read_37 rfl rfl ?_
  refine x_get fX11_49 rfl dX11_read_38 (by with_reducible repeat first | assumption | exact hset_s | refine hget_n (by first | assumption | exact Ne.symm (by assumption) | exact nA ok (by omega) (by omega) (by omega)) ?_) (by rfl) ?_
  refine x_cV1 (As := []) (ct_scReached g9) vX11_123 rfl (x_recv (by with_reducible repeat first | assumption | exact hset_s | refine hget_n (by first | assumption | exact Ne.symm (by assumption) | exact nA ok (by omega) (by omega) (by omega)) ?_) rfl) rfl ⟨ble rfl, ble rfl⟩ (ble rfl) dX11_read_41 rfl ?_
  refine x_put fX11_64 rfl rfl rfl rfl dX11_read_44 (by with_reducible repeat first | assumption | exact hset_s | refine hget_n (by first | assumption | exact Ne.symm (by assumption) | exact nA ok (by omega) (by omega) (by omega)) ?_) (by exact ble rfl) (by first | assumption | exact aA (by assumption) (by omega)) ?_
  have T2 := T1.fr (h' := hset h1 (Ad G 0) (eSt G isv (nI at1))) (P := fun x => x = Ad G 0) (Fr.rf.st rfl) (fun e => nA ok (by omega) (by omega) (by omega) e) (fun e => hbn 0 (Or.inl (by omega)) e.symm)
  have z0 := hset_s (h := h1) (a := Ad G 0) (e := eSt G isv (nI at1))
  have z9 := hget_n (h := h1) (a := Ad G 0) (e := eSt G isv (nI at1)) (nA ok (show 9 < 3000 by omega) (show 0 < 3000 by omega) (by omega)) g9
  have z11 := hget_n (h := h1) (a := Ad G 0) (e := eSt G isv (nI at1)) (nA ok (show 11 < 3000 by omega) (show 0 < 3000 by omega) (by omega)) g11
  have z12 := hget_n (h := h1) (a := Ad G 0) (e := eSt G isv (nI at1)) (nA ok (show 12 < 3000 by omega) (show 0 < 3000 by omega) (by omega)) g12
  have z13 := hget_n (h := h1) (a := Ad G 0) (e := eSt G isv (nI at1)) (nA ok (show 13 < 3000 by omega) (show 0 < 3000 by omega) (by omega)) g13
  first | refine x_aload_n 1 dX11_read_47 rfl rfl ?_ | refine x_aload_nN 1 dX11_read_47 rfl rfl ?_
  refine x_get fX11_49 rfl dX11_read_48 (by with_reducible repeat first | assumption | exact hset_s | refine hget_n (by first | assumption | exact Ne.symm (by assumption) | exact nA ok (by omega) (by omega) (by omega)) ?_) (by rfl) ?_
  refine x_pV0 (mc1 := 0) (ms1 := 0) (As := []) (ct_scEmpty ok z9 T2) vX11_126 rfl (x_recv (by with_reducible repeat first | assumption | exact hset_s | refine hget_n (by first | assumption | exact Ne.symm (by assumption) | exact nA ok (by omega) (by omega) (by omega)) ?_) rfl) rfl ⟨ble rfl, ble rfl⟩ (ble rfl) dX11_read_51 rfl ⟨by omega, by omega⟩ (fun h51 q51 => ?_)
  refine x_iload_n 0 dX11_read_54 rfl rfl ?_
  refine x_iret rfl dX11_read_55 ?_
  obtain ⟨T3, F3⟩ := q51
  have y0 := F3 _ _ z0 (fun e => nA ok (show 0 < 3000 by omega) (show 10 < 3000 by omega) (by omega) e)
  have y9 := F3 _ _ z9 (fun e => nA ok (show 9 < 3000 by omega) (show 10 < 3000 by omega) (by omega) e)
  have y11 := F3 _ _ z11 (fun e => nA ok (show 11 < 3000 by omega) (show 10 < 3000 by omega) (by omega) e)
  have y12 := F3 _ _ z12 (fun e => nA ok (show 12 < 3000 by omega) (show 10 < 3000 by omega) (by omega) e)
  have y13 := F3 _ _ z13 (fun e => nA ok (show 13 < 3000 by omega) (show 10 < 3000 by omega) (by omega) e)
  have F4 : Fr (fun x => x = Ad G 0 ∨ x = Ad G 10 ∨ x = Ad G 9 ∨ x = Ad G 11 ∨ x = Ad G 12 ∨ x = Ad G 13) h h1 := F1.mo (fun _ z => Or.inr (Or.inr z))
  have F5 : Fr (fun x => x = Ad G 0 ∨ x = Ad G 10 ∨ x = Ad G 9 ∨ x = Ad G 11 ∨ x = Ad G 12 ∨ x = Ad G 13) h (hset h1 (Ad G 0) (eSt G isv (nI at1))) := F4.st (Or.inl rfl)
  have F6 : Fr (fun x => x = Ad G 0 ∨ x = Ad G 10 ∨ x = Ad G 9 ∨ x = Ad G 11 ∨ x = Ad G 12 ∨ x = Ad G 13) h h51 := F5.tr F3 (fun _ z => z) (fun _ z => Or.inr (Or.inl z))
  exact ⟨rfl, y0, ⟨vf1, ff1, sf1, cn1, at1, y9, y11, y12, y13⟩, T3, F6⟩
