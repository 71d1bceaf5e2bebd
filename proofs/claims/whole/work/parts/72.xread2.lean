set_option maxRecDepth 100000 in
set_option maxHeartbeats 1000000 in
theorem ct_xread_y {l : Launch} {G : Gl} {h : Hp} (ok : Ok G) {isv flt : Int32} (hst : h (Ad G 0) = some (eSt G isv flt)) {cn0 a0 : Nat} {vf : Nat → Option Nat} {ff sf : Nat → Int32} (hs : h (Ad G 9) = some (eSc G (nI cn0) (nI a0))) (h11 : h (Ad G 11) = some (eR G 7 10 vf)) (h12 : h (Ad G 12) = some (eI G 10 ff)) (h13 : h (Ad G 13) = some (eI G 10 sf)) {tx : List Int32} (hA : Asc tx) (h60 : tx.length ≤ 60) {b : Nat} (hbn : ∀ i, nmU i → Ad G i ≠ b) (T : SBT G h (Ad G 10) tx b) (hm : h (Ad G 1) = some (.inr (9, [.ref (Ad G 1000), .ref (Ad G 2)]))) {N : Nat → Int32} {ns np no : Nat} (H : ShW G h 1000 N ns np no) {c : Nat} {f d : Nat → Int32} (R : RsW G h c f d) {M : Nat → Int32} {nx cn ms mp mo : Nat} (HH : HiW G h nx cn) (hnx : nx < 9) (hcn : cn ≤ 8) (HR : ShW G h (100 * (nx + 1)) M ms mp mo) {C0 : CmL} (Tx : Txt tx 0 C0) {N' : Nat → Int32} (hr : RunY N C0 N') : Ct l G mX11_read 13 (0) (0) [.ref (Ad G 0)] h (fun w h' => w = some (.int (nI C0.length)) ∧ (∃ ns np no, ShW G h' 1000 N' ns np no) ∧ ShW G h' (100 * (nx + 1)) N ns np no ∧ HiW G h' ((nx + 1) % 9) (min (cn + 1) 8) ∧ (∃ (vf : Nat → Option Nat) (ff sf : Nat → Int32) (cn at' : Nat), h' (Ad G 9) = some (eSc G (nI cn) (nI at')) ∧ h' (Ad G 11) = some (eR G 7 10 vf) ∧ h' (Ad G 12) = some (eI G 10 ff) ∧ h' (Ad G 13) = some (eI G 10 sf)) ∧ SBT G h' (Ad G 10) [] b ∧ Fr (fun x => x = Ad G 5 ∨ inB G 1000 60 x ∨ inB G (100 * (nx + 1)) 60 x ∨ x = Ad G 10 ∨ x = Ad G 9 ∨ x = Ad G 11 ∨ x = Ad G 12 ∨ x = Ad G 13) h h') := by
  have h10 : C0.length ≤ 10 := by have := Txt.le C0 0 Tx; omega
  refine Ct.of (L := [(0, _)]) (by decide) (ble rfl) rfl ?_
  refine x_bipush (v := -2) dX11_read_0 rfl ?_
  refine x_istore_n (L' := [(1, _), (0, _)]) dX11_read_2 rfl (ble rfl) rfl ?_
  first | refine x_aload_n 1 dX11_read_3 rfl rfl ?_ | refine x_aload_nN 1 dX11_read_3 rfl rfl ?_
  refine x_get fX11_49 rfl dX11_read_4 (by with_reducible repeat first | assumption | exact hset_s | refine hget_n (by first | assumption | exact Ne.symm (by assumption) | exact nA ok (by omega) (by omega) (by omega)) ?_) (by rfl) ?_
  refine x_callW (mc1 := 0) (ms1 := 0) (As := []) (ct_isRight_y ok hs h11 h12 h13 hA h60 hbn T Tx) vX11_115 rfl (x_recv hs rfl) rfl ⟨ble rfl, ble rfl⟩ (ble rfl) dX11_read_7 rfl ⟨by omega, by omega⟩ (fun w h1 q1 => ?_)
  obtain ⟨rfl, vf1, ff1, sf1, cn1, at1, ⟨g9, g11, g12, g13⟩, F1, rfl, En⟩ := q1
  have T1 := T.fr F1 (by rintro (e | e | e | e) <;> exact nA ok (by omega) (by omega) (by omega) e) (by rintro (e | e | e | e) <;> exact hbn _ (Or.inl (by omega)) e.symm)
  have hst1 := F1 _ _ hst (by rintro (e | e | e | e) <;> exact nA ok (by omega) (by omega) (by omega) e)
  have hm1 := F1 _ _ hm (by rintro (e | e | e | e) <;> exact nA ok (by omega) (by omega) (by omega) e)
  have R1 : RsW G h1 c f d := ⟨F1 _ _ R.1 (by rintro (e | e | e | e) <;> exact nA ok (by omega) (by omega) (by omega) e), F1 _ _ R.2.1 (by rintro (e | e | e | e) <;> exact nA ok (by omega) (by omega) (by omega) e), F1 _ _ R.2.2 (by rintro (e | e | e | e) <;> exact nA ok (by omega) (by omega) (by omega) e)⟩
  have HH1 : HiW G h1 nx cn := ⟨F1 _ _ HH.1 (by rintro (e | e | e | e) <;> exact nA ok (by omega) (by omega) (by omega) e), F1 _ _ HH.2 (by rintro (e | e | e | e) <;> exact nA ok (by omega) (by omega) (by omega) e)⟩
  have H1 := H.fr F1 (fun i hi => (by rintro (e | e | e | e) <;> exact nA ok (by omega) (by omega) (by omega) e))
  have HR1 := HR.fr F1 (fun i hi => (by rintro (e | e | e | e) <;> exact nA ok (by omega) (by omega) (by omega) e))
  have h51 := HH1.1
  refine x_if_eq 36 dX11_read_10 (by decide) (fun z => by first | exact absurd z (show ¬ (1 : Int32) = 0 by decide) | exact absurd (show ¬ (1 : Int32) = 0 by decide) z) (fun _ => ?_)
  first | refine x_aload_n 1 dX11_read_13 rfl rfl ?_ | refine x_aload_nN 1 dX11_read_13 rfl rfl ?_
  refine x_get fX11_35 rfl dX11_read_14 (by with_reducible repeat first | assumption | exact hset_s | refine hget_n (by first | assumption | exact Ne.symm (by assumption) | exact nA ok (by omega) (by omega) (by omega)) ?_) (by rfl) ?_
  first | refine x_aload_n 1 dX11_read_17 rfl rfl ?_ | refine x_aload_nN 1 dX11_read_17 rfl rfl ?_
  refine x_get fX11_20 rfl dX11_read_18 (by with_reducible repeat first | assumption | exact hset_s | refine hget_n (by first | assumption | exact Ne.symm (by assumption) | exact nA ok (by omega) (by omega) (by omega)) ?_) (by rfl) ?_
  refine x_pV0 (mc1 := 0) (ms1 := 0) (As := [.ref _]) (ct_X1_note ok HH1 hnx HR1 H1) vX11_81 rfl (x_recv HH1.1 rfl) rfl ⟨ble rfl, ble rfl⟩ (ble rfl) dX11_read_21 rfl ⟨by omega, by omega⟩ (fun h8 q21 => ?_)
  obtain ⟨HR8, F8⟩ := q21
  have hst8 := F8 _ _ hst1 (nB ok (by omega) (by omega) (by omega))
  have hm8 := F8 _ _ hm1 (nB ok (by omega) (by omega) (by omega))
  have R8 : RsW G h8 c f d := ⟨F8 _ _ R1.1 (nB ok (by omega) (by omega) (by omega)), F8 _ _ R1.2.1 (nB ok (by omega) (by omega) (by omega)), F8 _ _ R1.2.2 (nB ok (by omega) (by omega) (by omega))⟩
  have HH8 : HiW G h8 nx cn := ⟨F8 _ _ HH1.1 (nB ok (by omega) (by omega) (by omega)), F8 _ _ HH1.2 (nB ok (by omega) (by omega) (by omega))⟩
  have H8 := H1.fr F8 (fun i hi => (nB ok (by omega) (by omega) (by omega)))
  have T8 := T1.fr F8 (nB ok (by omega) (by omega) (by omega)) (fun ⟨i, hi, hk, e⟩ => hbn _ (Or.inr (Or.inr ⟨nx, i, by omega, hk rfl, rfl⟩)) e.symm)
  have k9 := F8 _ _ g9 (nB ok (by omega) (by omega) (by omega))
  have k11 := F8 _ _ g11 (nB ok (by omega) (by omega) (by omega))
  have k12 := F8 _ _ g12 (nB ok (by omega) (by omega) (by omega))
  have k13 := F8 _ _ g13 (nB ok (by omega) (by omega) (by omega))
  first | refine x_aload_n 1 dX11_read_24 rfl rfl ?_ | refine x_aload_nN 1 dX11_read_24 rfl rfl ?_
  first | refine x_aload_n 1 dX11_read_25 rfl rfl ?_ | refine x_aload_nN 1 dX11_read_25 rfl rfl ?_
  refine x_callW (mc1 := 0) (ms1 := 0) (As := []) (ct_carryOut_y ok hst8 hm8 k9 k11 k12 k13 R8 h10 En H8 hr) vX11_119 rfl (x_recv hst8 rfl) rfl ⟨ble rfl, ble rfl⟩ (ble rfl) dX11_read_26 rfl ⟨by omega, by omega⟩ (fun w h9 q9 => ?_)
  obtain ⟨rfl, ⟨n1, n2, n3, H9⟩, F9⟩ := q9
  have hst9 := F9 _ _ hst8 (nB ok (by omega) (by omega) (by omega))
  have HH9 : HiW G h9 nx cn := ⟨F9 _ _ HH8.1 (nB ok (by omega) (by omega) (by omega)), F9 _ _ HH8.2 (nB ok (by omega) (by omega) (by omega))⟩
  have HR9 := HR8.fr F9 (fun i hi => (nB ok (by omega) (by omega) (by omega)))
  have T9 := T8.fr F9 (nB ok (by omega) (by omega) (by omega)) (fun ⟨i, hi, hk, e⟩ => hbn _ (Or.inr (Or.inr ⟨9, i, by omega, hk rfl, rfl⟩)) e.symm)
  have j9 := F9 _ _ k9 (nB ok (by omega) (by omega) (by omega))
  have j11 := F9 _ _ k11 (nB ok (by omega) (by omega) (by omega))
  have j12 := F9 _ _ k12 (nB ok (by omega) (by omega) (by omega))
  have j13 := F9 _ _ k13 (nB ok (by omega) (by omega) (by omega))
  refine x_cV1 (As := [.int _]) (ct_kept_y ok hst9 HH9 hnx hcn (Int32.not_lt.mp (nI_pos (by omega)))) vX11_89 rfl (x_recv (by with_reducible repeat first | assumption | exact hset_s | refine hget_n (by first | assumption | exact Ne.symm (by assumption) | exact nA ok (by omega) (by omega) (by omega)) ?_) rfl) rfl ⟨ble rfl, ble rfl⟩ (ble rfl) dX11_read_29 rfl ?_
  refine x_istore_n (L' := [(1, _), (0, _)]) dX11_read_32 rfl (ble rfl) rfl ?_
  refine x_goto 47 dX11_read_33 (by decide) ?_
  have n56 := nA ok (show 6 < 3000 by omega) (show 5 < 3000 by omega) (by omega)
  have F5 : Fr (fun a => a = Ad G 5) h9 (hset h9 (Ad G 5) (.inr (2, [.ref (Ad G 6), .int (nI ((nx + 1) % 9)), .int (nI (min (cn + 1) 8))]))) := Fr.rf.st rfl
  have NF : ∀ j, j < 3000 → j ≠ 5 → ¬ Ad G j = Ad G 5 := fun j hj n => nA ok hj (by omega) n
  have Tz := T9.fr F5 (NF 10 (by omega) (by omega)) (fun e => hbn 5 (Or.inl (by omega)) e.symm)
  have Hz := H9.fr F5 (fun i hi => NF _ (by omega) (by omega))
  have HRz := HR9.fr F5 (fun i hi => NF _ (by omega) (by omega))
  have HHz : HiW G (hset h9 (Ad G 5) (.inr (2, [.ref (Ad G 6), .int (nI ((nx + 1) % 9)), .int (nI (min (cn + 1) 8))]))) ((nx + 1) % 9) (min (cn + 1) 8) := ⟨hset_s, hget_n n56 HH9.2⟩
  have hstz := F5 _ _ hst9 (NF 0 (by omega) (by omega))
  have z9 := F5 _ _ j9 (NF 9 (by omega) (by omega))
  have z11 := F5 _ _ j11 (NF 11 (by omega) (by omega))
  have z12 := F5 _ _ j12 (NF 12 (by omega) (by omega))
  have z13 := F5 _ _ j13 (NF 13 (by omega) (by omega))
  first | refine x_aload_n 1 dX11_read_47 rfl rfl ?_ | refine x_aload_nN 1 dX11_read_47 rfl rfl ?_
  refine x_get fX11_49 rfl dX11_read_48 (by with_reducible repeat first | assumption | exact hset_s | refine hget_n (by first | assumption | exact Ne.symm (by assumption) | exact nA ok (by omega) (by omega) (by omega)) ?_) (by rfl) ?_
  refine x_pV0 (mc1 := 0) (ms1 := 0) (As := []) (ct_scEmpty ok z9 Tz) vX11_126 rfl (x_recv (by with_reducible repeat first | assumption | exact hset_s | refine hget_n (by first | assumption | exact Ne.symm (by assumption) | exact nA ok (by omega) (by omega) (by omega)) ?_) rfl) rfl ⟨ble rfl, ble rfl⟩ (ble rfl) dX11_read_51 rfl ⟨by omega, by omega⟩ (fun h51 q51 => ?_)
  refine x_iload_n 0 dX11_read_54 rfl rfl ?_
  refine x_iret rfl dX11_read_55 ?_
  obtain ⟨T3, F3⟩ := q51
  have N3 : ∀ j, j < 3000 → j ≠ 10 → ¬ Ad G j = Ad G 10 := fun j hj n => nA ok hj (by omega) n
  have Fa := (F1.tr F8 (Q := fun x => (x = Ad G 9 ∨ x = Ad G 11 ∨ x = Ad G 12 ∨ x = Ad G 13) ∨ inB G (100 * (nx + 1)) 60 x) (fun _ z => Or.inl z) (fun _ z => Or.inr z))
  have Fb : Fr (fun x => x = Ad G 5 ∨ inB G 1000 60 x ∨ inB G (100 * (nx + 1)) 60 x ∨ x = Ad G 10 ∨ x = Ad G 9 ∨ x = Ad G 11 ∨ x = Ad G 12 ∨ x = Ad G 13) h h9 := Fa.tr F9 (fun _ z => z.elim (fun z => Or.inr (Or.inr (Or.inr (Or.inr z)))) (fun z => Or.inr (Or.inr (Or.inl z)))) (fun _ z => Or.inr (Or.inl z))
  have Fc : Fr (fun x => x = Ad G 5 ∨ inB G 1000 60 x ∨ inB G (100 * (nx + 1)) 60 x ∨ x = Ad G 10 ∨ x = Ad G 9 ∨ x = Ad G 11 ∨ x = Ad G 12 ∨ x = Ad G 13) h (hset h9 (Ad G 5) (.inr (2, [.ref (Ad G 6), .int (nI ((nx + 1) % 9)), .int (nI (min (cn + 1) 8))]))) := Fb.st (Or.inl rfl)
  have Fd : Fr (fun x => x = Ad G 5 ∨ inB G 1000 60 x ∨ inB G (100 * (nx + 1)) 60 x ∨ x = Ad G 10 ∨ x = Ad G 9 ∨ x = Ad G 11 ∨ x = Ad G 12 ∨ x = Ad G 13) h h51 := Fc.tr F3 (fun _ z => z) (fun _ z => Or.inr (Or.inr (Or.inr (Or.inl z))))
  have y9 := F3 _ _ z9 (N3 9 (by omega) (by omega))
  have y11 := F3 _ _ z11 (N3 11 (by omega) (by omega))
  have y12 := F3 _ _ z12 (N3 12 (by omega) (by omega))
  have y13 := F3 _ _ z13 (N3 13 (by omega) (by omega))
  exact ⟨rfl, ⟨n1, n2, n3, Hz.fr F3 (fun i hi => N3 _ (by omega) (by omega))⟩, HRz.fr F3 (fun i hi => N3 _ (by omega) (by omega)), ⟨F3 _ _ HHz.1 (N3 5 (by omega) (by omega)), F3 _ _ HHz.2 (N3 6 (by omega) (by omega))⟩, ⟨vf1, ff1, sf1, _, at1, y9, y11, y12, y13⟩, T3, Fd⟩
set_option maxRecDepth 100000 in
set_option maxHeartbeats 1000000 in
theorem ct_xread_r {l : Launch} {G : Gl} {h : Hp} (ok : Ok G) {isv flt : Int32} (hst : h (Ad G 0) = some (eSt G isv flt)) {cn0 a0 : Nat} {vf : Nat → Option Nat} {ff sf : Nat → Int32} (hs : h (Ad G 9) = some (eSc G (nI cn0) (nI a0))) (h11 : h (Ad G 11) = some (eR G 7 10 vf)) (h12 : h (Ad G 12) = some (eI G 10 ff)) (h13 : h (Ad G 13) = some (eI G 10 sf)) {tx : List Int32} (hA : Asc tx) (h60 : tx.length ≤ 60) {b : Nat} (hbn : ∀ i, nmU i → Ad G i ≠ b) (T : SBT G h (Ad G 10) tx b) (hm : h (Ad G 1) = some (.inr (9, [.ref (Ad G 1000), .ref (Ad G 2)]))) {N : Nat → Int32} {ns np no : Nat} (H : ShW G h 1000 N ns np no) {c : Nat} {f d : Nat → Int32} (R : RsW G h c f d) {M : Nat → Int32} {nx cn ms mp mo : Nat} (HH : HiW G h nx cn) (hnx : nx < 9) (hcn : cn ≤ 8) (HR : ShW G h (100 * (nx + 1)) M ms mp mo) {C0 : CmL} (Tx : Txt tx 0 C0) {o : Out} (hn3 : ∀ z, o = .inl z → ¬ z = -3) {K0 : Nat} (hr : RunN o N C0 K0) : Ct l G mX11_read 13 (0) (0) [.ref (Ad G 0)] h (fun w h' => w = some (.int (-3)) ∧ ShW G h' 1000 N ns np no ∧ ShW G h' (100 * (nx + 1)) N ns np no ∧ HiW G h' nx cn ∧ (∃ c' f' d', RsW G h' c' f' d' ∧ f' 0 = 14 ∧ d' 0 = nI K0 ∧ RsO o c' f' d') ∧ (∃ (vf : Nat → Option Nat) (ff sf : Nat → Int32) (cn at' : Nat), h' (Ad G 9) = some (eSc G (nI cn) (nI at')) ∧ h' (Ad G 11) = some (eR G 7 10 vf) ∧ h' (Ad G 12) = some (eI G 10 ff) ∧ h' (Ad G 13) = some (eI G 10 sf)) ∧ SBT G h' (Ad G 10) [] b ∧ Fr (fun x => (inB G 1000 60 x ∨ inB G 2 3 x) ∨ inB G (100 * (nx + 1)) 60 x ∨ x = Ad G 10 ∨ x = Ad G 9 ∨ x = Ad G 11 ∨ x = Ad G 12 ∨ x = Ad G 13) h h') := by
  have h10 : C0.length ≤ 10 := by have := Txt.le C0 0 Tx; omega
  refine Ct.of (L := [(0, _)]) (by decide) (ble rfl) rfl ?_
  refine x_bipush (v := -2) dX11_read_0 rfl ?_
  refine x_istore_n (L' := [(1, _), (0, _)]) dX11_read_2 rfl (ble rfl) rfl ?_
  first | refine x_aload_n 1 dX11_read_3 rfl rfl ?_ | refine x_aload_nN 1 dX11_read_3 rfl rfl ?_
  refine x_get fX11_49 rfl dX11_read_4 (by with_reducible repeat first | assumption | exact hset_s | refine hget_n (by first | assumption | exact Ne.symm (by assumption) | exact nA ok (by omega) (by omega) (by omega)) ?_) (by rfl) ?_
  refine x_callW (mc1 := 0) (ms1 := 0) (As := []) (ct_isRight_y ok hs h11 h12 h13 hA h60 hbn T Tx) vX11_115 rfl (x_recv hs rfl) rfl ⟨ble rfl, ble rfl⟩ (ble rfl) dX11_read_7 rfl ⟨by omega, by omega⟩ (fun w h1 q1 => ?_)
  obtain ⟨rfl, vf1, ff1, sf1, cn1, at1, ⟨g9, g11, g12, g13⟩, F1, rfl, En⟩ := q1
  have T1 := T.fr F1 (by rintro (e | e | e | e) <;> exact nA ok (by omega) (by omega) (by omega) e) (by rintro (e | e | e | e) <;> exact hbn _ (Or.inl (by omega)) e.symm)
  have hst1 := F1 _ _ hst (by rintro (e | e | e | e) <;> exact nA ok (by omega) (by omega) (by omega) e)
  have hm1 := F1 _ _ hm (by rintro (e | e | e | e) <;> exact nA ok (by omega) (by omega) (by omega) e)
  have R1 : RsW G h1 c f d := ⟨F1 _ _ R.1 (by rintro (e | e | e | e) <;> exact nA ok (by omega) (by omega) (by omega) e), F1 _ _ R.2.1 (by rintro (e | e | e | e) <;> exact nA ok (by omega) (by omega) (by omega) e), F1 _ _ R.2.2 (by rintro (e | e | e | e) <;> exact nA ok (by omega) (by omega) (by omega) e)⟩
  have HH1 : HiW G h1 nx cn := ⟨F1 _ _ HH.1 (by rintro (e | e | e | e) <;> exact nA ok (by omega) (by omega) (by omega) e), F1 _ _ HH.2 (by rintro (e | e | e | e) <;> exact nA ok (by omega) (by omega) (by omega) e)⟩
  have H1 := H.fr F1 (fun i hi => (by rintro (e | e | e | e) <;> exact nA ok (by omega) (by omega) (by omega) e))
  have HR1 := HR.fr F1 (fun i hi => (by rintro (e | e | e | e) <;> exact nA ok (by omega) (by omega) (by omega) e))
  have h51 := HH1.1
  refine x_if_eq 36 dX11_read_10 (by decide) (fun z => by first | exact absurd z (show ¬ (1 : Int32) = 0 by decide) | exact absurd (show ¬ (1 : Int32) = 0 by decide) z) (fun _ => ?_)
  first | refine x_aload_n 1 dX11_read_13 rfl rfl ?_ | refine x_aload_nN 1 dX11_read_13 rfl rfl ?_
  refine x_get fX11_35 rfl dX11_read_14 (by with_reducible repeat first | assumption | exact hset_s | refine hget_n (by first | assumption | exact Ne.symm (by assumption) | exact nA ok (by omega) (by omega) (by omega)) ?_) (by rfl) ?_
  first | refine x_aload_n 1 dX11_read_17 rfl rfl ?_ | refine x_aload_nN 1 dX11_read_17 rfl rfl ?_
  refine x_get fX11_20 rfl dX11_read_18 (by with_reducible repeat first | assumption | exact hset_s | refine hget_n (by first | assumption | exact Ne.symm (by assumption) | exact nA ok (by omega) (by omega) (by omega)) ?_) (by rfl) ?_
  refine x_pV0 (mc1 := 0) (ms1 := 0) (As := [.ref _]) (ct_X1_note ok HH1 hnx HR1 H1) vX11_81 rfl (x_recv HH1.1 rfl) rfl ⟨ble rfl, ble rfl⟩ (ble rfl) dX11_read_21 rfl ⟨by omega, by omega⟩ (fun h8 q21 => ?_)
  obtain ⟨HR8, F8⟩ := q21
  have hst8 := F8 _ _ hst1 (nB ok (by omega) (by omega) (by omega))
  have hm8 := F8 _ _ hm1 (nB ok (by omega) (by omega) (by omega))
  have R8 : RsW G h8 c f d := ⟨F8 _ _ R1.1 (nB ok (by omega) (by omega) (by omega)), F8 _ _ R1.2.1 (nB ok (by omega) (by omega) (by omega)), F8 _ _ R1.2.2 (nB ok (by omega) (by omega) (by omega))⟩
  have HH8 : HiW G h8 nx cn := ⟨F8 _ _ HH1.1 (nB ok (by omega) (by omega) (by omega)), F8 _ _ HH1.2 (nB ok (by omega) (by omega) (by omega))⟩
  have H8 := H1.fr F8 (fun i hi => (nB ok (by omega) (by omega) (by omega)))
  have T8 := T1.fr F8 (nB ok (by omega) (by omega) (by omega)) (fun ⟨i, hi, hk, e⟩ => hbn _ (Or.inr (Or.inr ⟨nx, i, by omega, hk rfl, rfl⟩)) e.symm)
  have k9 := F8 _ _ g9 (nB ok (by omega) (by omega) (by omega))
  have k11 := F8 _ _ g11 (nB ok (by omega) (by omega) (by omega))
  have k12 := F8 _ _ g12 (nB ok (by omega) (by omega) (by omega))
  have k13 := F8 _ _ g13 (nB ok (by omega) (by omega) (by omega))
  first | refine x_aload_n 1 dX11_read_24 rfl rfl ?_ | refine x_aload_nN 1 dX11_read_24 rfl rfl ?_
  first | refine x_aload_n 1 dX11_read_25 rfl rfl ?_ | refine x_aload_nN 1 dX11_read_25 rfl rfl ?_
  refine x_callW (mc1 := 0) (ms1 := 0) (As := []) (ct_carryOut_n ok hst8 hm8 k9 k11 k12 k13 R8 h10 En HH8 hnx HR8 H8 hn3 hr) vX11_119 rfl (x_recv hst8 rfl) rfl ⟨ble rfl, ble rfl⟩ (ble rfl) dX11_read_26 rfl ⟨by omega, by omega⟩ (fun w h9 q9 => ?_)
  obtain ⟨rfl, H9, F9, c9, f9, d9, R9, e9, e9b, ro⟩ := q9
  have hst9 := F9 _ _ hst8 (fun q => q.elim (nB ok (by omega) (by omega) (by omega)) (nB ok (by omega) (by omega) (by omega)))
  have HH9 : HiW G h9 nx cn := ⟨F9 _ _ HH8.1 (fun q => q.elim (nB ok (by omega) (by omega) (by omega)) (nB ok (by omega) (by omega) (by omega))), F9 _ _ HH8.2 (fun q => q.elim (nB ok (by omega) (by omega) (by omega)) (nB ok (by omega) (by omega) (by omega)))⟩
  have HR9 := HR8.fr F9 (fun i hi => (fun q => q.elim (nB ok (by omega) (by omega) (by omega)) (nB ok (by omega) (by omega) (by omega))))
  have T9 := T8.fr F9 (fun q => q.elim (nB ok (by omega) (by omega) (by omega)) (nB ok (by omega) (by omega) (by omega))) (fun q => q.elim (fun ⟨i, hi, hk, e⟩ => hbn _ (Or.inr (Or.inr ⟨9, i, by omega, hk rfl, rfl⟩)) e.symm) (fun ⟨i, hi, hk, e⟩ => hbn _ (Or.inl (by omega)) e.symm))
  have j9 := F9 _ _ k9 (fun q => q.elim (nB ok (by omega) (by omega) (by omega)) (nB ok (by omega) (by omega) (by omega)))
  have j11 := F9 _ _ k11 (fun q => q.elim (nB ok (by omega) (by omega) (by omega)) (nB ok (by omega) (by omega) (by omega)))
  have j12 := F9 _ _ k12 (fun q => q.elim (nB ok (by omega) (by omega) (by omega)) (nB ok (by omega) (by omega) (by omega)))
  have j13 := F9 _ _ k13 (fun q => q.elim (nB ok (by omega) (by omega) (by omega)) (nB ok (by omega) (by omega) (by omega)))
  refine x_cV1 (As := [.int _]) (ct_kept_n hst9 (show (-3 : Int32) < 0 by decide)) vX11_89 rfl (x_recv (by with_reducible repeat first | assumption | exact hset_s | refine hget_n (by first | assumption | exact Ne.symm (by assumption) | exact nA ok (by omega) (by omega) (by omega)) ?_) rfl) rfl ⟨ble rfl, ble rfl⟩ (ble rfl) dX11_read_29 rfl ?_
  refine x_istore_n (L' := [(1, _), (0, _)]) dX11_read_32 rfl (ble rfl) rfl ?_
  refine x_goto 47 dX11_read_33 (by decide) ?_
  first | refine x_aload_n 1 dX11_read_47 rfl rfl ?_ | refine x_aload_nN 1 dX11_read_47 rfl rfl ?_
  refine x_get fX11_49 rfl dX11_read_48 (by with_reducible repeat first | assumption | exact hset_s | refine hget_n (by first | assumption | exact Ne.symm (by assumption) | exact nA ok (by omega) (by omega) (by omega)) ?_) (by rfl) ?_
  refine x_pV0 (mc1 := 0) (ms1 := 0) (As := []) (ct_scEmpty ok j9 T9) vX11_126 rfl (x_recv (by with_reducible repeat first | assumption | exact hset_s | refine hget_n (by first | assumption | exact Ne.symm (by assumption) | exact nA ok (by omega) (by omega) (by omega)) ?_) rfl) rfl ⟨ble rfl, ble rfl⟩ (ble rfl) dX11_read_51 rfl ⟨by omega, by omega⟩ (fun h51 q51 => ?_)
  refine x_iload_n 0 dX11_read_54 rfl rfl ?_
  refine x_iret rfl dX11_read_55 ?_
  obtain ⟨T3, F3⟩ := q51
  have N3 : ∀ j, j < 3000 → j ≠ 10 → ¬ Ad G j = Ad G 10 := fun j hj n => nA ok hj (by omega) n
  have Fa := (F1.tr F8 (Q := fun x => (x = Ad G 9 ∨ x = Ad G 11 ∨ x = Ad G 12 ∨ x = Ad G 13) ∨ inB G (100 * (nx + 1)) 60 x) (fun _ z => Or.inl z) (fun _ z => Or.inr z))
  have Fb : Fr (fun x => (inB G 1000 60 x ∨ inB G 2 3 x) ∨ inB G (100 * (nx + 1)) 60 x ∨ x = Ad G 10 ∨ x = Ad G 9 ∨ x = Ad G 11 ∨ x = Ad G 12 ∨ x = Ad G 13) h h9 := Fa.tr F9 (fun _ z => z.elim (fun z => Or.inr (Or.inr (Or.inr z))) (fun z => Or.inr (Or.inl z))) (fun _ z => Or.inl z)
  have Fd : Fr (fun x => (inB G 1000 60 x ∨ inB G 2 3 x) ∨ inB G (100 * (nx + 1)) 60 x ∨ x = Ad G 10 ∨ x = Ad G 9 ∨ x = Ad G 11 ∨ x = Ad G 12 ∨ x = Ad G 13) h h51 := Fb.tr F3 (fun _ z => z) (fun _ z => Or.inr (Or.inr (Or.inl z)))
  have y9 := F3 _ _ j9 (N3 9 (by omega) (by omega))
  have y11 := F3 _ _ j11 (N3 11 (by omega) (by omega))
  have y12 := F3 _ _ j12 (N3 12 (by omega) (by omega))
  have y13 := F3 _ _ j13 (N3 13 (by omega) (by omega))
  exact ⟨rfl, H9.fr F3 (fun i hi => N3 _ (by omega) (by omega)), HR9.fr F3 (fun i hi => N3 _ (by omega) (by omega)), ⟨F3 _ _ HH9.1 (N3 5 (by omega) (by omega)), F3 _ _ HH9.2 (N3 6 (by omega) (by omega))⟩, ⟨c9, f9, d9, ⟨F3 _ _ R9.1 (N3 2 (by omega) (by omega)), F3 _ _ R9.2.1 (N3 3 (by omega) (by omega)), F3 _ _ R9.2.2 (N3 4 (by omega) (by omega))⟩, e9, e9b, ro⟩, ⟨vf1, ff1, sf1, _, at1, y9, y11, y12, y13⟩, T3, Fd⟩
