set_option maxRecDepth 100000 in
set_option maxHeartbeats 1000000 in
theorem ct_xclear {l : Launch} {G : Gl} {h : Hp} {isv flt : Int32} (ok : Ok G) (hst : h (Ad G 0) = some (eSt G isv flt)) {N : Nat → Int32} {ns np no : Nat} (H : ShW G h 1000 N ns np no) {nx cn : Nat} (HH : HiW G h nx cn) (hnx : nx < 9) (hcn : cn ≤ 8) {N2 : Nat → Int32} (Z : newRow N2) : Ct l G mX11_clear 10 (0) (0) [.ref (Ad G 0)] h (fun w h' => w = some (.int (N 3)) ∧ ShW G h' 1000 N2 0 0 0 ∧ HiW G h' nx 0 ∧ Fr (fun a => a = Ad G 5 ∨ inB G 1000 60 a) h h') := by
  have hsh := H.1
  refine Ct.of (L := [(0, _)]) (by decide) (ble rfl) rfl ?_
  first | refine x_aload_n 0 dX11_clear_0 rfl rfl ?_ | refine x_aload_nN 0 dX11_clear_0 rfl rfl ?_
  refine x_get fX11_20 rfl dX11_clear_1 (by with_reducible repeat first | assumption | exact hset_s | refine hget_n (by first | assumption | exact Ne.symm (by assumption) | exact nA ok (by omega) (by omega) (by omega)) ?_) (by rfl) ?_
  refine x_get fX11_68 rfl dX11_clear_4 (by with_reducible repeat first | assumption | exact hset_s | refine hget_n (by first | assumption | exact Ne.symm (by assumption) | exact nA ok (by omega) (by omega) (by omega)) ?_) (by rfl) ?_
  refine x_istore_n (L' := [(1, _), (0, _)]) dX11_clear_7 rfl (ble rfl) rfl ?_
  first | refine x_aload_n 1 dX11_clear_8 rfl rfl ?_ | refine x_aload_nN 1 dX11_clear_8 rfl rfl ?_
  refine x_get fX11_20 rfl dX11_clear_9 (by with_reducible repeat first | assumption | exact hset_s | refine hget_n (by first | assumption | exact Ne.symm (by assumption) | exact nA ok (by omega) (by omega) (by omega)) ?_) (by rfl) ?_
  refine x_pV0 (mc1 := 0) (ms1 := 0) (As := []) (ct_X8_startAnew ok (by omega) H Z) vX11_71 rfl (x_recv (by with_reducible repeat first | assumption | exact hset_s | refine hget_n (by first | assumption | exact Ne.symm (by assumption) | exact nA ok (by omega) (by omega) (by omega)) ?_) rfl) rfl ⟨ble rfl, ble rfl⟩ (ble rfl) dX11_clear_12 rfl ⟨by omega, by omega⟩ (fun h12 q12 => ?_)
  obtain ⟨H1, F1⟩ := q12
  have hst1 := F1 _ _ hst (nB ok (by omega) (by omega) (by omega))
  have HH1 : HiW G h12 nx cn := ⟨F1 _ _ HH.1 (nB ok (by omega) (by omega) (by omega)), F1 _ _ HH.2 (nB ok (by omega) (by omega) (by omega))⟩
  have h51 := HH1.1
  first | refine x_aload_n 1 dX11_clear_15 rfl rfl ?_ | refine x_aload_nN 1 dX11_clear_15 rfl rfl ?_
  refine x_get fX11_35 rfl dX11_clear_16 (by with_reducible repeat first | assumption | exact hset_s | refine hget_n (by first | assumption | exact Ne.symm (by assumption) | exact nA ok (by omega) (by omega) (by omega)) ?_) (by rfl) ?_
  refine x_cV0 (As := []) (ct_X1_forget HH1 ok) vX11_74 rfl (x_recv (by with_reducible repeat first | assumption | exact hset_s | refine hget_n (by first | assumption | exact Ne.symm (by assumption) | exact nA ok (by omega) (by omega) (by omega)) ?_) rfl) rfl ⟨ble rfl, ble rfl⟩ (ble rfl) dX11_clear_19 rfl ?_
  refine x_iload_n 0 dX11_clear_22 rfl rfl ?_
  refine x_iret rfl dX11_clear_23 ?_
  have n56 := nA ok (show 6 < 3000 by omega) (show 5 < 3000 by omega) (by omega)
  exact ⟨rfl, H1.fr (P := fun a => a = Ad G 5) (Fr.rf.st rfl) (fun i hi e => nA ok (by omega) (by omega) (by omega) e), ⟨hset_s, hget_n n56 HH1.2⟩, (F1.mo (fun _ z => Or.inr z)).st (Or.inl rfl)⟩
set_option maxRecDepth 100000 in
set_option maxHeartbeats 1000000 in
theorem ct_xundo_0 {l : Launch} {G : Gl} {h : Hp} {isv flt : Int32} (ok : Ok G) (hst : h (Ad G 0) = some (eSt G isv flt)) {nx : Nat} (HH : HiW G h nx 0) : Ct l G mX11_undo 10 (0) (0) [.ref (Ad G 0)] h (fun w h' => w = some (.int (-4)) ∧ h' = h) := by
  have h5 := HH.1
  refine Ct.of (L := [(0, _)]) (by decide) (ble rfl) rfl ?_
  first | refine x_aload_n 0 dX11_undo_0 rfl rfl ?_ | refine x_aload_nN 0 dX11_undo_0 rfl rfl ?_
  refine x_get fX11_35 rfl dX11_undo_1 (by with_reducible repeat first | assumption | exact hset_s | refine hget_n (by first | assumption | exact Ne.symm (by assumption) | exact nA ok (by omega) (by omega) (by omega)) ?_) (by rfl) ?_
  refine x_cV1 (As := []) (ct_X1_isEmpty HH (by omega)) vX11_293 rfl (x_recv (by with_reducible repeat first | assumption | exact hset_s | refine hget_n (by first | assumption | exact Ne.symm (by assumption) | exact nA ok (by omega) (by omega) (by omega)) ?_) rfl) rfl ⟨ble rfl, ble rfl⟩ (ble rfl) dX11_undo_4 rfl ?_
  refine x_if_eq 15 dX11_undo_7 (by decide) (fun z => by first | exact absurd z (by decide) | exact absurd (by decide) z) (fun _ => ?_)
  refine x_bipush (v := -4) dX11_undo_10 rfl ?_
  refine x_goto 26 dX11_undo_12 (by decide) ?_
  refine x_iret rfl dX11_undo_26 ?_
  show some (Value.int (-4)) = some (Value.int (-4)) ∧ h = h
  exact ⟨rfl, rfl⟩
set_option maxRecDepth 100000 in
set_option maxHeartbeats 1000000 in
theorem ct_xundo_1 {l : Launch} {G : Gl} {h : Hp} {isv flt : Int32} (ok : Ok G) (hst : h (Ad G 0) = some (eSt G isv flt)) {N : Nat → Int32} {ns np no : Nat} (H : ShW G h 1000 N ns np no) {nx cn : Nat} (HH : HiW G h nx cn) (hnx : nx < 9) (hcn : cn ≤ 8) (hc0 : 0 < cn) {M : Nat → Int32} {ms mp mo : Nat} (HRb : ShW G h (100 * ((nx + 8) % 9 + 1)) M ms mp mo) : Ct l G mX11_undo 10 (0) (0) [.ref (Ad G 0)] h (fun w h' => w = some (.int (nI (cn - 1))) ∧ ShW G h' 1000 M ms mp mo ∧ HiW G h' ((nx + 8) % 9) (cn - 1) ∧ Fr (fun a => a = Ad G 5 ∨ inB G 1000 60 a) h h') := by
  have h5 := HH.1
  refine Ct.of (L := [(0, _)]) (by decide) (ble rfl) rfl ?_
  first | refine x_aload_n 0 dX11_undo_0 rfl rfl ?_ | refine x_aload_nN 0 dX11_undo_0 rfl rfl ?_
  refine x_get fX11_35 rfl dX11_undo_1 (by with_reducible repeat first | assumption | exact hset_s | refine hget_n (by first | assumption | exact Ne.symm (by assumption) | exact nA ok (by omega) (by omega) (by omega)) ?_) (by rfl) ?_
  refine x_cV1 (As := []) (ct_X1_isEmpty HH (by omega)) vX11_293 rfl (x_recv (by with_reducible repeat first | assumption | exact hset_s | refine hget_n (by first | assumption | exact Ne.symm (by assumption) | exact nA ok (by omega) (by omega) (by omega)) ?_) rfl) rfl ⟨ble rfl, ble rfl⟩ (ble rfl) dX11_undo_4 rfl ?_
  refine x_if_eq 15 dX11_undo_7 (by decide) (fun _ => ?_) (fun z => by first | exact absurd (if_neg (by omega)) z | exact absurd z (if_neg (by omega)))
  first | refine x_aload_n 0 dX11_undo_15 rfl rfl ?_ | refine x_aload_nN 0 dX11_undo_15 rfl rfl ?_
  refine x_get fX11_35 rfl dX11_undo_16 (by with_reducible repeat first | assumption | exact hset_s | refine hget_n (by first | assumption | exact Ne.symm (by assumption) | exact nA ok (by omega) (by omega) (by omega)) ?_) (by rfl) ?_
  first | refine x_aload_n 0 dX11_undo_19 rfl rfl ?_ | refine x_aload_nN 0 dX11_undo_19 rfl rfl ?_
  refine x_get fX11_20 rfl dX11_undo_20 (by with_reducible repeat first | assumption | exact hset_s | refine hget_n (by first | assumption | exact Ne.symm (by assumption) | exact nA ok (by omega) (by omega) (by omega)) ?_) (by rfl) ?_
  refine x_pV1 (mc1 := 0) (ms1 := 0) (As := [.ref _]) (ct_X1_takeBack ok HH hnx hc0 (by omega) HRb H) vX11_296 rfl (x_recv (by with_reducible repeat first | assumption | exact hset_s | refine hget_n (by first | assumption | exact Ne.symm (by assumption) | exact nA ok (by omega) (by omega) (by omega)) ?_) rfl) rfl ⟨ble rfl, ble rfl⟩ (ble rfl) dX11_undo_23 rfl ⟨by omega, by omega⟩ (fun h23 q23 => ?_)
  refine x_iret rfl dX11_undo_26 ?_
  exact ⟨rfl, q23⟩
set_option maxRecDepth 100000 in
set_option maxHeartbeats 1000000 in
theorem ct_xsave {l : Launch} {G : Gl} {h : Hp} {isv flt : Int32} (ok : Ok G) (hst : h (Ad G 0) = some (eSt G isv flt)) {N : Nat → Int32} {ns np no : Nat} (H : ShW G h 1000 N ns np no) {S : Nat → Int32} {ss sp so : Nat} (HS : ShW G h 1100 S ss sp so) : Ct l G mX11_save 10 (0) (0) [.ref (Ad G 0)] h (fun w h' => w = some (.int (N 3)) ∧ ShW G h' 1100 N ns np no ∧ h' (Ad G 0) = some (eSt G 1 flt) ∧ Fr (fun a => a = Ad G 0 ∨ inB G 1100 60 a) h h') := by
  have hsh := H.1
  have hsv := HS.1
  refine Ct.of (L := [(0, _)]) (by decide) (ble rfl) rfl ?_
  first | refine x_aload_n 0 dX11_save_0 rfl rfl ?_ | refine x_aload_nN 0 dX11_save_0 rfl rfl ?_
  refine x_get fX11_29 rfl dX11_save_1 (by with_reducible repeat first | assumption | exact hset_s | refine hget_n (by first | assumption | exact Ne.symm (by assumption) | exact nA ok (by omega) (by omega) (by omega)) ?_) (by rfl) ?_
  first | refine x_aload_n 0 dX11_save_4 rfl rfl ?_ | refine x_aload_nN 0 dX11_save_4 rfl rfl ?_
  refine x_get fX11_20 rfl dX11_save_5 (by with_reducible repeat first | assumption | exact hset_s | refine hget_n (by first | assumption | exact Ne.symm (by assumption) | exact nA ok (by omega) (by omega) (by omega)) ?_) (by rfl) ?_
  refine x_pV0 (mc1 := 0) (ms1 := 0) (As := [.ref _]) (ct_X8_copyFrom ok (by omega) (by omega) (by omega) HS H) vX11_300 rfl (x_recv (by with_reducible repeat first | assumption | exact hset_s | refine hget_n (by first | assumption | exact Ne.symm (by assumption) | exact nA ok (by omega) (by omega) (by omega)) ?_) rfl) rfl ⟨ble rfl, ble rfl⟩ (ble rfl) dX11_save_8 rfl ⟨by omega, by omega⟩ (fun h8 q8 => ?_)
  obtain ⟨H1, F1⟩ := q8
  have hst1 := F1 _ _ hst (nB ok (by omega) (by omega) (by omega))
  have hsh1 := F1 _ _ hsh (nB ok (by omega) (by omega) (by omega))
  first | refine x_aload_n 0 dX11_save_11 rfl rfl ?_ | refine x_aload_nN 0 dX11_save_11 rfl rfl ?_
  refine x_iconst (v := 1) dX11_save_12 rfl ?_
  refine x_put fX11_60 rfl rfl rfl rfl dX11_save_13 (by with_reducible repeat first | assumption | exact hset_s | refine hget_n (by first | assumption | exact Ne.symm (by assumption) | exact nA ok (by omega) (by omega) (by omega)) ?_) (by exact ble rfl) (by first | assumption | exact aA (by assumption) (by omega)) ?_
  first | refine x_aload_n 0 dX11_save_16 rfl rfl ?_ | refine x_aload_nN 0 dX11_save_16 rfl rfl ?_
  refine x_get fX11_20 rfl dX11_save_17 (by with_reducible repeat first | assumption | exact hset_s | refine hget_n (by first | assumption | exact Ne.symm (by assumption) | exact nA ok (by omega) (by omega) (by omega)) ?_) (by rfl) ?_
  refine x_get fX11_68 rfl dX11_save_20 (by with_reducible repeat first | assumption | exact hset_s | refine hget_n (by first | assumption | exact Ne.symm (by assumption) | exact nA ok (by omega) (by omega) (by omega)) ?_) (by rfl) ?_
  refine x_iret rfl dX11_save_23 ?_
  exact ⟨rfl, H1.fr (P := fun a => a = Ad G 0) (Fr.rf.st rfl) (fun i hi e => nA ok (by omega) (by omega) (by omega) e), hset_s, (F1.mo (fun _ z => Or.inr z)).st (Or.inl rfl)⟩
set_option maxRecDepth 100000 in
set_option maxHeartbeats 1000000 in
theorem ct_xrestore_0 {l : Launch} {G : Gl} {h : Hp} {flt : Int32} (hst : h (Ad G 0) = some (eSt G 0 flt)) : Ct l G mX11_restore 10 (0) (0) [.ref (Ad G 0)] h (fun w h' => w = some (.int (-4)) ∧ h' = h) := by
  refine Ct.of (L := [(0, _)]) (by decide) (ble rfl) rfl ?_
  first | refine x_aload_n 0 dX11_restore_0 rfl rfl ?_ | refine x_aload_nN 0 dX11_restore_0 rfl rfl ?_
  refine x_get fX11_60 rfl dX11_restore_1 (by with_reducible repeat first | assumption | exact hset_s | refine hget_n (by first | assumption | exact Ne.symm (by assumption) | exact nA ok (by omega) (by omega) (by omega)) ?_) (by rfl) ?_
  refine x_if_ne 10 dX11_restore_4 (by decide) (fun z => by first | exact absurd z (fun z => z rfl) | exact absurd (fun z => z rfl) z) (fun _ => ?_)
  refine x_bipush (v := -4) dX11_restore_7 rfl ?_
  refine x_iret rfl dX11_restore_9 ?_
  show some (Value.int (-4)) = some (Value.int (-4)) ∧ h = h
  exact ⟨rfl, rfl⟩
set_option maxRecDepth 100000 in
set_option maxHeartbeats 1000000 in
theorem ct_xrestore_1 {l : Launch} {G : Gl} {h : Hp} {isv flt : Int32} (ok : Ok G) (hst : h (Ad G 0) = some (eSt G isv flt)) {N : Nat → Int32} {ns np no : Nat} (H : ShW G h 1000 N ns np no) {S : Nat → Int32} {ss sp so : Nat} (HS : ShW G h 1100 S ss sp so) {nx cn : Nat} (HH : HiW G h nx cn) (hnx : nx < 9) (hcn : cn ≤ 8) (hv : ¬ isv = 0) : Ct l G mX11_restore 10 (0) (0) [.ref (Ad G 0)] h (fun w h' => w = some (.int (S 3)) ∧ ShW G h' 1000 S ss sp so ∧ HiW G h' nx 0 ∧ Fr (fun a => a = Ad G 5 ∨ inB G 1000 60 a) h h') := by
  have hsh := H.1
  have hsv := HS.1
  refine Ct.of (L := [(0, _)]) (by decide) (ble rfl) rfl ?_
  first | refine x_aload_n 0 dX11_restore_0 rfl rfl ?_ | refine x_aload_nN 0 dX11_restore_0 rfl rfl ?_
  refine x_get fX11_60 rfl dX11_restore_1 (by with_reducible repeat first | assumption | exact hset_s | refine hget_n (by first | assumption | exact Ne.symm (by assumption) | exact nA ok (by omega) (by omega) (by omega)) ?_) (by rfl) ?_
  refine x_if_ne 10 dX11_restore_4 (by decide) (fun _ => ?_) (fun z => by first | exact absurd (hv) z | exact absurd z (hv))
  first | refine x_aload_n 0 dX11_restore_10 rfl rfl ?_ | refine x_aload_nN 0 dX11_restore_10 rfl rfl ?_
  refine x_get fX11_20 rfl dX11_restore_11 (by with_reducible repeat first | assumption | exact hset_s | refine hget_n (by first | assumption | exact Ne.symm (by assumption) | exact nA ok (by omega) (by omega) (by omega)) ?_) (by rfl) ?_
  first | refine x_aload_n 0 dX11_restore_14 rfl rfl ?_ | refine x_aload_nN 0 dX11_restore_14 rfl rfl ?_
  refine x_get fX11_29 rfl dX11_restore_15 (by with_reducible repeat first | assumption | exact hset_s | refine hget_n (by first | assumption | exact Ne.symm (by assumption) | exact nA ok (by omega) (by omega) (by omega)) ?_) (by rfl) ?_
  refine x_pV0 (mc1 := 0) (ms1 := 0) (As := [.ref _]) (ct_X8_copyFrom ok (by omega) (by omega) (by omega) H HS) vX11_300 rfl (x_recv (by with_reducible repeat first | assumption | exact hset_s | refine hget_n (by first | assumption | exact Ne.symm (by assumption) | exact nA ok (by omega) (by omega) (by omega)) ?_) rfl) rfl ⟨ble rfl, ble rfl⟩ (ble rfl) dX11_restore_18 rfl ⟨by omega, by omega⟩ (fun h18 q18 => ?_)
  obtain ⟨H1, F1⟩ := q18
  have hsh1 := H1.1
  have hst1 := F1 _ _ hst (nB ok (by omega) (by omega) (by omega))
  have HH1 : HiW G h18 nx cn := ⟨F1 _ _ HH.1 (nB ok (by omega) (by omega) (by omega)), F1 _ _ HH.2 (nB ok (by omega) (by omega) (by omega))⟩
  have h51 := HH1.1
  first | refine x_aload_n 0 dX11_restore_21 rfl rfl ?_ | refine x_aload_nN 0 dX11_restore_21 rfl rfl ?_
  refine x_get fX11_35 rfl dX11_restore_22 (by with_reducible repeat first | assumption | exact hset_s | refine hget_n (by first | assumption | exact Ne.symm (by assumption) | exact nA ok (by omega) (by omega) (by omega)) ?_) (by rfl) ?_
  refine x_cV0 (As := []) (ct_X1_forget HH1 ok) vX11_74 rfl (x_recv (by with_reducible repeat first | assumption | exact hset_s | refine hget_n (by first | assumption | exact Ne.symm (by assumption) | exact nA ok (by omega) (by omega) (by omega)) ?_) rfl) rfl ⟨ble rfl, ble rfl⟩ (ble rfl) dX11_restore_25 rfl ?_
  first | refine x_aload_n 0 dX11_restore_28 rfl rfl ?_ | refine x_aload_nN 0 dX11_restore_28 rfl rfl ?_
  refine x_get fX11_20 rfl dX11_restore_29 (by with_reducible repeat first | assumption | exact hset_s | refine hget_n (by first | assumption | exact Ne.symm (by assumption) | exact nA ok (by omega) (by omega) (by omega)) ?_) (by rfl) ?_
  refine x_get fX11_68 rfl dX11_restore_32 (by with_reducible repeat first | assumption | exact hset_s | refine hget_n (by first | assumption | exact Ne.symm (by assumption) | exact nA ok (by omega) (by omega) (by omega)) ?_) (by rfl) ?_
  refine x_iret rfl dX11_restore_35 ?_
  have n56 := nA ok (show 6 < 3000 by omega) (show 5 < 3000 by omega) (by omega)
  exact ⟨rfl, H1.fr (P := fun a => a = Ad G 5) (Fr.rf.st rfl) (fun i hi e => nA ok (by omega) (by omega) (by omega) e), ⟨hset_s, hget_n n56 HH1.2⟩, (F1.mo (fun _ z => Or.inr z)).st (Or.inl rfl)⟩
set_option maxRecDepth 100000 in
set_option maxHeartbeats 1000000 in
theorem ct_xreason_in {l : Launch} {G : Gl} {h : Hp} {isv flt : Int32} (ok : Ok G) (hst : h (Ad G 0) = some (eSt G isv flt)) {c : Nat} {f d : Nat → Int32} (R : RsW G h c f d) (hc : c ≤ 3) {j : Nat} (hj : j < c) (y : Int32) : Ct l G mX11_reason 10 (0) (0) [.ref (Ad G 0), .int (nI j), .int y] h (fun w h' => w = some (.int (if y = 0 then f j else d j)) ∧ h' = h) := by
  have h2 := R.1
  refine Ct.of (L := [(0, _), (1, _), (2, _)]) (by decide) (ble rfl) rfl ?_
  refine x_iload_n 1 dX11_reason_0 rfl rfl ?_
  refine x_if_lt 9 dX11_reason_1 (by decide) (fun z => by first | exact absurd z (nI_pos (by omega)) | exact absurd (nI_pos (by omega)) z) (fun _ => ?_)
  refine x_iload_n 1 dX11_reason_4 rfl rfl ?_
  refine x_iconst (v := 3) dX11_reason_5 rfl ?_
  refine x_icmp_lt 12 dX11_reason_6 (by decide) (fun _ => ?_) (fun z => by first | exact absurd (show nI j < nI 3 from nI_lt (by omega) (by omega)) z | exact absurd z (show nI j < nI 3 from nI_lt (by omega) (by omega)))
  first | refine x_aload_n 0 dX11_reason_12 rfl rfl ?_ | refine x_aload_nN 0 dX11_reason_12 rfl rfl ?_
  refine x_get fX11_25 rfl dX11_reason_13 (by with_reducible repeat first | assumption | exact hset_s | refine hget_n (by first | assumption | exact Ne.symm (by assumption) | exact nA ok (by omega) (by omega) (by omega)) ?_) (by rfl) ?_
  refine x_iload_n 1 dX11_reason_16 rfl rfl ?_
  refine x_iload_n 2 dX11_reason_17 rfl rfl ?_
  refine x_cV1 (As := [.int _, .int _]) (ct_X5_tell_in R hc hj _) vX11_129 rfl (x_recv (by with_reducible repeat first | assumption | exact hset_s | refine hget_n (by first | assumption | exact Ne.symm (by assumption) | exact nA ok (by omega) (by omega) (by omega)) ?_) rfl) rfl ⟨ble rfl, ble rfl⟩ (ble rfl) dX11_reason_18 rfl ?_
  refine x_iret rfl dX11_reason_21 ?_
  exact ⟨rfl, rfl⟩
set_option maxRecDepth 100000 in
set_option maxHeartbeats 1000000 in
theorem ct_xreason_out {l : Launch} {G : Gl} {h : Hp} {isv flt : Int32} (ok : Ok G) (hst : h (Ad G 0) = some (eSt G isv flt)) {c : Nat} {f d : Nat → Int32} (R : RsW G h c f d) (hc : c ≤ 3) {x : Int32} (hx : 0 ≤ x ∧ x < 3) (hxc : ¬ x < nI c) (y : Int32) : Ct l G mX11_reason 10 (0) (0) [.ref (Ad G 0), .int x, .int y] h (fun w h' => w = some (.int (-4)) ∧ h' = h) := by
  have h2 := R.1
  refine Ct.of (L := [(0, _), (1, _), (2, _)]) (by decide) (ble rfl) rfl ?_
  refine x_iload_n 1 dX11_reason_0 rfl rfl ?_
  refine x_if_lt 9 dX11_reason_1 (by decide) (fun z => by first | exact absurd z (Int32.not_lt.mpr hx.1) | exact absurd (Int32.not_lt.mpr hx.1) z) (fun _ => ?_)
  refine x_iload_n 1 dX11_reason_4 rfl rfl ?_
  refine x_iconst (v := 3) dX11_reason_5 rfl ?_
  refine x_icmp_lt 12 dX11_reason_6 (by decide) (fun _ => ?_) (fun z => by first | exact absurd (hx.2) z | exact absurd z (hx.2))
  first | refine x_aload_n 0 dX11_reason_12 rfl rfl ?_ | refine x_aload_nN 0 dX11_reason_12 rfl rfl ?_
  refine x_get fX11_25 rfl dX11_reason_13 (by with_reducible repeat first | assumption | exact hset_s | refine hget_n (by first | assumption | exact Ne.symm (by assumption) | exact nA ok (by omega) (by omega) (by omega)) ?_) (by rfl) ?_
  refine x_iload_n 1 dX11_reason_16 rfl rfl ?_
  refine x_iload_n 2 dX11_reason_17 rfl rfl ?_
  refine x_cV1 (As := [.int _, .int _]) (ct_X5_tell_out R (fun z => hxc z.2) _) vX11_129 rfl (x_recv (by with_reducible repeat first | assumption | exact hset_s | refine hget_n (by first | assumption | exact Ne.symm (by assumption) | exact nA ok (by omega) (by omega) (by omega)) ?_) rfl) rfl ⟨ble rfl, ble rfl⟩ (ble rfl) dX11_reason_18 rfl ?_
  refine x_iret rfl dX11_reason_21 ?_
  exact ⟨rfl, rfl⟩
set_option maxRecDepth 100000 in
set_option maxHeartbeats 1000000 in
theorem ct_xreason_b {l : Launch} {G : Gl} {h : Hp} {isv flt : Int32} (ok : Ok G) (hst : h (Ad G 0) = some (eSt G isv flt)) {x : Int32} (hx : ¬ (0 ≤ x ∧ x < 3)) (y : Int32) : Ct l G mX11_reason 10 (0) (0) [.ref (Ad G 0), .int x, .int y] h (fun w h' => w = some (.int (-2)) ∧ h' = h) := by
  refine Ct.of (L := [(0, _), (1, _), (2, _)]) (by decide) (ble rfl) rfl ?_
  refine x_iload_n 1 dX11_reason_0 rfl rfl ?_
  refine x_if_lt 9 dX11_reason_1 (by decide) (fun c1 => ?_) (fun c1 => ?_)
  · refine x_bipush (v := -2) dX11_reason_9 rfl ?_
    refine x_iret rfl dX11_reason_11 ?_
    show some (Value.int (-2)) = some (Value.int (-2)) ∧ h = h
    exact ⟨rfl, rfl⟩
  · refine x_iload_n 1 dX11_reason_4 rfl rfl ?_
    refine x_iconst (v := 3) dX11_reason_5 rfl ?_
    refine x_icmp_lt 12 dX11_reason_6 (by decide) (fun c6 => ?_) (fun c6 => ?_)
    · exact absurd ⟨Int32.not_lt.mp c1, c6⟩ hx
    · refine x_bipush (v := -2) dX11_reason_9 rfl ?_
      refine x_iret rfl dX11_reason_11 ?_
      show some (Value.int (-2)) = some (Value.int (-2)) ∧ h = h
      exact ⟨rfl, rfl⟩
set_option maxRecDepth 100000 in
set_option maxHeartbeats 1000000 in
theorem ct_xwritten_in {l : Launch} {G : Gl} {h : Hp} {isv flt : Int32} (ok : Ok G) (hst : h (Ad G 0) = some (eSt G isv flt)) {lx : List Int32} {b2 : Nat} (T : SBT G h (Ad G 14) lx b2) (hA : Asc lx) (h60 : lx.length ≤ 64) {i : Nat} (hi : i < lx.length) : Ct l G mX11_written 10 (0) (0) [.ref (Ad G 0), .int (nI i)] h (fun w h' => w = some (.int (lx.getD i 0)) ∧ h' = h) := by
  obtain ⟨mm, ml, f9, h14, hb14, hab, hB, hl, hmm, hfit, hf, hAd⟩ := id T
  refine Ct.of (L := [(0, _), (1, _)]) (by decide) (ble rfl) rfl ?_
  refine x_iload_n 1 dX11_written_0 rfl rfl ?_
  refine x_if_lt 26 dX11_written_1 (by decide) (fun z => by first | exact absurd z (nI_pos (by omega)) | exact absurd (nI_pos (by omega)) z) (fun _ => ?_)
  refine x_iload_n 1 dX11_written_4 rfl rfl ?_
  first | refine x_aload_n 0 dX11_written_5 rfl rfl ?_ | refine x_aload_nN 0 dX11_written_5 rfl rfl ?_
  refine x_get fX11_56 rfl dX11_written_6 (by with_reducible repeat first | assumption | exact hset_s | refine hget_n (by first | assumption | exact Ne.symm (by assumption) | exact nA ok (by omega) (by omega) (by omega)) ?_) (by rfl) ?_
  refine x_cV1 (As := []) (ct_J4_length_8abf5 (by with_reducible repeat first | assumption | exact hset_s | refine hget_n (by first | assumption | exact Ne.symm (by assumption) | exact nA ok (by omega) (by omega) (by omega)) ?_)) vX11_257 rfl (x_recv (by with_reducible repeat first | assumption | exact hset_s | refine hget_n (by first | assumption | exact Ne.symm (by assumption) | exact nA ok (by omega) (by omega) (by omega)) ?_) rfl) rfl ⟨ble rfl, ble rfl⟩ (ble rfl) dX11_written_9 rfl ?_
  refine x_icmp_ge 26 dX11_written_12 (by decide) (fun z => by first | exact absurd z (nI_ge hi (by omega)) | exact absurd (nI_ge hi (by omega)) z) (fun _ => ?_)
  first | refine x_aload_n 0 dX11_written_15 rfl rfl ?_ | refine x_aload_nN 0 dX11_written_15 rfl rfl ?_
  refine x_get fX11_56 rfl dX11_written_16 (by with_reducible repeat first | assumption | exact hset_s | refine hget_n (by first | assumption | exact Ne.symm (by assumption) | exact nA ok (by omega) (by omega) (by omega)) ?_) (by rfl) ?_
  refine x_iload_n 1 dX11_written_19 rfl rfl ?_
  refine x_cV1 (As := [.int _]) (ct_J4_charAt_5068e T hA hi) vX11_260 rfl (x_recv (by with_reducible repeat first | assumption | exact hset_s | refine hget_n (by first | assumption | exact Ne.symm (by assumption) | exact nA ok (by omega) (by omega) (by omega)) ?_) rfl) rfl ⟨ble rfl, ble rfl⟩ (ble rfl) dX11_written_20 rfl ?_
  refine x_goto 27 dX11_written_23 (by decide) ?_
  refine x_iret rfl dX11_written_27 ?_
  exact ⟨rfl, rfl⟩
set_option maxRecDepth 100000 in
set_option maxHeartbeats 1000000 in
theorem ct_xwritten_out {l : Launch} {G : Gl} {h : Hp} {isv flt : Int32} (ok : Ok G) (hst : h (Ad G 0) = some (eSt G isv flt)) {lx : List Int32} {b2 : Nat} (T : SBT G h (Ad G 14) lx b2) (hA : Asc lx) (h60 : lx.length ≤ 64) {x : Int32} (hx : ¬ (0 ≤ x ∧ x < nI lx.length)) : Ct l G mX11_written 10 (0) (0) [.ref (Ad G 0), .int x] h (fun w h' => w = some (.int (-1)) ∧ h' = h) := by
  obtain ⟨mm, ml, f9, h14, hb14, hab, hB, hl, hmm, hfit, hf, hAd⟩ := id T
  refine Ct.of (L := [(0, _), (1, _)]) (by decide) (ble rfl) rfl ?_
  refine x_iload_n 1 dX11_written_0 rfl rfl ?_
  refine x_if_lt 26 dX11_written_1 (by decide) (fun c1 => ?_) (fun c1 => ?_)
  · refine x_iconst (v := -1) dX11_written_26 rfl ?_
    refine x_iret rfl dX11_written_27 ?_
    show some (Value.int (-1)) = some (Value.int (-1)) ∧ h = h
    exact ⟨rfl, rfl⟩
  · refine x_iload_n 1 dX11_written_4 rfl rfl ?_
    first | refine x_aload_n 0 dX11_written_5 rfl rfl ?_ | refine x_aload_nN 0 dX11_written_5 rfl rfl ?_
    refine x_get fX11_56 rfl dX11_written_6 (by with_reducible repeat first | assumption | exact hset_s | refine hget_n (by first | assumption | exact Ne.symm (by assumption) | exact nA ok (by omega) (by omega) (by omega)) ?_) (by rfl) ?_
    refine x_cV1 (As := []) (ct_J4_length_8abf5 (by with_reducible repeat first | assumption | exact hset_s | refine hget_n (by first | assumption | exact Ne.symm (by assumption) | exact nA ok (by omega) (by omega) (by omega)) ?_)) vX11_257 rfl (x_recv (by with_reducible repeat first | assumption | exact hset_s | refine hget_n (by first | assumption | exact Ne.symm (by assumption) | exact nA ok (by omega) (by omega) (by omega)) ?_) rfl) rfl ⟨ble rfl, ble rfl⟩ (ble rfl) dX11_written_9 rfl ?_
    refine x_icmp_ge 26 dX11_written_12 (by decide) (fun _ => ?_) (fun z => by first | exact absurd (Int32.not_lt.mp (fun z => hx ⟨Int32.not_lt.mp c1, z⟩)) z | exact absurd z (Int32.not_lt.mp (fun z => hx ⟨Int32.not_lt.mp c1, z⟩)))
    refine x_iconst (v := -1) dX11_written_26 rfl ?_
    refine x_iret rfl dX11_written_27 ?_
    show some (Value.int (-1)) = some (Value.int (-1)) ∧ h = h
    exact ⟨rfl, rfl⟩
set_option maxRecDepth 100000 in
set_option maxHeartbeats 1000000 in
theorem ct_xdescribe_in {l : Launch} {G : Gl} {h : Hp} {isv flt : Int32} (ok : Ok G) (hst : h (Ad G 0) = some (eSt G isv flt)) {N : Nat → Int32} {ns np no : Nat} (H : ShW G h 1000 N ns np no) {lx : List Int32} {b2 : Nat} (T : SBT G h (Ad G 14) lx b2) (hAll : ∀ i, nmU i → h (Ad G i) ≠ none) {i th t : Nat} (hi : i < np) (hth : thickK (kOf (N (60 + 8 * i))) (N (61 + 8 * i)) (N (62 + 8 * i)) = nI th) (hth9 : th ≤ 9) (ht : (N (63 + 8 * i)) = nI t) (ht9 : t ≤ 9) : Ct l G mX11_describe 10 (10) (1300) [.ref (Ad G 0), .int (nI i)] h (fun w h' => w = some (.int (nI (lnF (kOf (N (60 + 8 * i))) i th (N (62 + 8 * i)) t (N (61 + 8 * i)) (N (64 + 8 * i)) (N (66 + 8 * i))).length)) ∧ SBP G h (Ad G 14) b2 (lnF (kOf (N (60 + 8 * i))) i th (N (62 + 8 * i)) t (N (61 + 8 * i)) (N (64 + 8 * i)) (N (66 + 8 * i))) h') := by
  obtain ⟨hsh, has, hap, hao, ⟨gp, hag⟩, hns, hnp, hno, bs, bp, bo, hS, hP, hO, -⟩ := id H
  obtain ⟨hk, hp⟩ := hP i hi
  obtain ⟨mm, ml, f9, h14, hb14, hab, hB, hl, hmm, hfit, hf, hAd⟩ := id T
  refine Ct.of (L := [(0, _), (1, _)]) (by decide) (ble rfl) rfl ?_
  first | refine x_aload_n 0 dX11_describe_0 rfl rfl ?_ | refine x_aload_nN 0 dX11_describe_0 rfl rfl ?_
  refine x_get fX11_20 rfl dX11_describe_1 (by with_reducible repeat first | assumption | exact hset_s | refine hget_n (by first | assumption | exact Ne.symm (by assumption) | exact nA ok (by omega) (by omega) (by omega)) ?_) (by rfl) ?_
  refine x_iload_n 1 dX11_describe_4 rfl rfl ?_
  refine x_cV1 (As := [.int _]) (ct_X8_potAt_in ok (by omega) H hi) vX11_143 rfl (x_recv (by with_reducible repeat first | assumption | exact hset_s | refine hget_n (by first | assumption | exact Ne.symm (by assumption) | exact nA ok (by omega) (by omega) (by omega)) ?_) rfl) rfl ⟨ble rfl, ble rfl⟩ (ble rfl) dX11_describe_5 rfl ?_
  first | refine x_astore_n (L' := [(2, _), (0, _), (1, _)]) dX11_describe_8 rfl (ble rfl) rfl ?_ | refine x_astore_nN (L' := [(2, _), (0, _), (1, _)]) dX11_describe_8 rfl (ble rfl) rfl ?_
  first | refine x_aload_n 0 dX11_describe_9 rfl rfl ?_ | refine x_aload_nN 0 dX11_describe_9 rfl rfl ?_
  refine x_ifnonnull 15 dX11_describe_10 (by decide) ?_
  first | refine x_aload_n 1 dX11_describe_15 rfl rfl ?_ | refine x_aload_nN 1 dX11_describe_15 rfl rfl ?_
  refine x_get fX11_56 rfl dX11_describe_16 (by with_reducible repeat first | assumption | exact hset_s | refine hget_n (by first | assumption | exact Ne.symm (by assumption) | exact nA ok (by omega) (by omega) (by omega)) ?_) (by rfl) ?_
  refine x_iconst (v := 0) dX11_describe_19 rfl ?_
  refine x_pV0 (mc1 := 10) (ms1 := 1300) (As := [.int _]) (ct_sl4 T (aA ok (by omega))) vX11_249 rfl (x_recv (by with_reducible repeat first | assumption | exact hset_s | refine hget_n (by first | assumption | exact Ne.symm (by assumption) | exact nA ok (by omega) (by omega) (by omega)) ?_) rfl) rfl ⟨ble rfl, ble rfl⟩ (ble rfl) dX11_describe_20 rfl ⟨by omega, by omega⟩ (fun h20 q20 => ?_)
  obtain ⟨T1, F1⟩ := q20
  have hst1 := F1 _ _ hst (nA ok (show 0 < 3000 by omega) (show 14 < 3000 by omega) (by omega))
  have hp1 := F1 _ _ hp (nA ok (by omega) (show 14 < 3000 by omega) (by omega))
  unfold pC at hp1
  rw [ht] at hp1
  obtain ⟨ml1, h14b⟩ := T1.at0
  have hAll1 : ∀ i, nmU i → h20 (Ad G i) ≠ none := fun i hi e => by
    by_cases q : Ad G i = Ad G 14
    · rw [q, h14b] at e; cases e
    · cases hc : h (Ad G i) with
      | none => exact hAll i hi hc
      | some y => rw [F1 _ _ hc q] at e; cases e
  first | refine x_aload_n 0 dX11_describe_23 rfl rfl ?_ | refine x_aload_nN 0 dX11_describe_23 rfl rfl ?_
  first | refine x_aload_n 1 dX11_describe_24 rfl rfl ?_ | refine x_aload_nN 1 dX11_describe_24 rfl rfl ?_
  refine x_get fX11_56 rfl dX11_describe_25 (by with_reducible repeat first | assumption | exact hset_s | refine hget_n (by first | assumption | exact Ne.symm (by assumption) | exact nA ok (by omega) (by omega) (by omega)) ?_) (by rfl) ?_
  refine x_pV0 (mc1 := 0) (ms1 := 0) (As := [.ref _]) (ct_X4_writeTo hp1 hk (by omega) ht9 hth hth9 (nA ok (by omega) (by omega) (by omega)) (fun e => hAd (1000 + 30 + i) (Or.inr (Or.inr ⟨9, 30 + i, by omega, Or.inr (Or.inr (Or.inl (by omega))), by omega⟩)) e) (aA ok (by omega)) hAll1 T1) vX11_253 rfl (x_recv (by with_reducible repeat first | assumption | exact hset_s | refine hget_n (by first | assumption | exact Ne.symm (by assumption) | exact nA ok (by omega) (by omega) (by omega)) ?_) rfl) rfl ⟨ble rfl, ble rfl⟩ (ble rfl) dX11_describe_28 rfl ⟨by omega, by omega⟩ (fun h28 q28 => ?_)
  have hst2 := SBP.get q28 hst1 (nA ok (show 0 < 3000 by omega) (show 14 < 3000 by omega) (by omega)) (fun e => hAd 0 (Or.inl (by omega)) e)
  have Q28 := q28
  obtain ⟨b9, T9, hb9, F9⟩ := q28
  obtain ⟨ml9, h149⟩ := T9.at0
  first | refine x_aload_n 1 dX11_describe_31 rfl rfl ?_ | refine x_aload_nN 1 dX11_describe_31 rfl rfl ?_
  refine x_get fX11_56 rfl dX11_describe_32 (by with_reducible repeat first | assumption | exact hset_s | refine hget_n (by first | assumption | exact Ne.symm (by assumption) | exact nA ok (by omega) (by omega) (by omega)) ?_) (by rfl) ?_
  refine x_cV1 (As := []) (ct_J4_length_8abf5 (by with_reducible repeat first | assumption | exact hset_s | refine hget_n (by first | assumption | exact Ne.symm (by assumption) | exact nA ok (by omega) (by omega) (by omega)) ?_)) vX11_257 rfl (x_recv (by with_reducible repeat first | assumption | exact hset_s | refine hget_n (by first | assumption | exact Ne.symm (by assumption) | exact nA ok (by omega) (by omega) (by omega)) ?_) rfl) rfl ⟨ble rfl, ble rfl⟩ (ble rfl) dX11_describe_35 rfl ?_
  refine x_iret rfl dX11_describe_38 ?_
  refine ⟨rfl, b9, T9, ?_, ?_⟩
  · rcases hb9 with z | z
    · exact Or.inl z
    · refine Or.inr ?_
      cases hc : h b9 with
      | none => rfl
      | some y =>
        exfalso
        by_cases q : b9 = Ad G 14
        · rw [q, h14b] at z; cases z
        · rw [F1 _ _ hc q] at z; cases z
  · exact F1.tr F9 (fun _ z => Or.inl z) (fun _ z => z)
set_option maxRecDepth 100000 in
set_option maxHeartbeats 1000000 in
theorem ct_xdescribe_out {l : Launch} {G : Gl} {h : Hp} {isv flt : Int32} (ok : Ok G) (hst : h (Ad G 0) = some (eSt G isv flt)) {N : Nat → Int32} {ns np no : Nat} (H : ShW G h 1000 N ns np no) {x : Int32} (hx : ¬ (0 ≤ x ∧ x < N 3)) : Ct l G mX11_describe 10 (0) (0) [.ref (Ad G 0), .int x] h (fun w h' => w = some (.int (-1)) ∧ h' = h) := by
  obtain ⟨hsh, has, hap, hao, ⟨gp, hag⟩, hns, hnp, hno, bs, bp, bo, hS, hP, hO, -⟩ := id H
  refine Ct.of (L := [(0, _), (1, _)]) (by decide) (ble rfl) rfl ?_
  refine x_aload_n 0 dX11_describe_0 rfl rfl ?_
  refine x_get fX11_20 rfl dX11_describe_1 (by with_reducible repeat first | assumption | exact hset_s | refine hget_n (by first | assumption | exact Ne.symm (by assumption) | exact nA ok (by omega) (by omega) (by omega)) ?_) (by rfl) ?_
  refine x_iload_n 1 dX11_describe_4 rfl rfl ?_
  refine x_cV1 (As := [.int _]) (ct_X8_potAt_out ok (by omega) H hx) vX11_143 rfl (x_recv (by with_reducible repeat first | assumption | exact hset_s | refine hget_n (by first | assumption | exact Ne.symm (by assumption) | exact nA ok (by omega) (by omega) (by omega)) ?_) rfl) rfl ⟨ble rfl, ble rfl⟩ (ble rfl) dX11_describe_5 rfl ?_
  refine x_astore_nN (L' := [(2, _), (0, _), (1, _)]) dX11_describe_8 rfl (ble rfl) rfl ?_
  refine x_aload_nN 0 dX11_describe_9 rfl rfl ?_
  refine x_ifnonnullN 15 dX11_describe_10 (by decide) ?_
  refine x_iconst (v := -1) dX11_describe_13 rfl ?_
  refine x_iret rfl dX11_describe_14 ?_
  show some (Value.int (-1)) = some (Value.int (-1)) ∧ h = h
  exact ⟨rfl, rfl⟩
