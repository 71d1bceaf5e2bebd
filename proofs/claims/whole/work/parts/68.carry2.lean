/-- the reasons behind a text refused -/
def RsO (o : Out) (c' : Nat) (f' d' : Nat → Int32) : Prop := match o with
  | .inl _ => c' = 1
  | .inr (.inl (w, dd, b, i)) => f' 1 = w ∧ d' 1 = dd ∧ (b = 0 → c' = 2) ∧ (¬ b = 0 → c' = 3 ∧ f' 2 = b ∧ d' 2 = i)
  | .inr (.inr _) => False
set_option maxRecDepth 100000 in
set_option maxHeartbeats 1000000 in
theorem xr_t3 {l : Launch} {G : Gl} {h : Hp} (ok : Ok G) {isv flt k0 o3 : Int32} {N : Nat → Int32} {ns np no : Nat} {M : Nat → Int32} {nx cn ms mp mo : Nat} (HH : HiW G h nx cn) (hnx : nx < 9) (HR : ShW G h (100 * (nx + 1)) M ms mp mo) (hst : h (Ad G 0) = some (eSt G isv flt)) (H : ShW G h 1000 N ns np no) {c : Nat} {f d : Nat → Int32} (R : RsW G h c f d) (hc : c ≤ 2) (ho : o3 = -3) {Q : Option Value → Hp → Prop} (hQ : ∀ h2 h' f' d', ShW G h2 1000 M ms mp mo → Fr (inB G 1000 60) h h2 → Fr (inB G 2 3) h2 h' → RsW G h' (c + 1) f' d' → f' 0 = 14 → d' 0 = k0 → (∀ i, i < c → f' (i + 1) = f i ∧ d' (i + 1) = d i) → Q (some (.int (-3))) h') : XX l G mX11_carryOut (Rm 12 0 0) (KQ G (Rm 12 0 0) Q) 0 0 30 [(2, .int o3), (1, .int k0), (0, .ref (Ad G 0))] [] h := by
  subst ho
  have h5 := HH.1
  have hsh := H.1
  first | refine x_aload_n 2 dX11_carryOut_30 rfl rfl ?_ | refine x_aload_nN 2 dX11_carryOut_30 rfl rfl ?_
  refine x_get fX11_35 rfl dX11_carryOut_31 (by with_reducible repeat first | assumption | exact hset_s | refine hget_n (by first | assumption | exact Ne.symm (by assumption) | exact nA ok (by omega) (by omega) (by omega)) ?_) (by rfl) ?_
  first | refine x_aload_n 2 dX11_carryOut_34 rfl rfl ?_ | refine x_aload_nN 2 dX11_carryOut_34 rfl rfl ?_
  refine x_get fX11_20 rfl dX11_carryOut_35 (by with_reducible repeat first | assumption | exact hset_s | refine hget_n (by first | assumption | exact Ne.symm (by assumption) | exact nA ok (by omega) (by omega) (by omega)) ?_) (by rfl) ?_
  refine x_pV0 (mc1 := 0) (ms1 := 0) (As := [.ref _]) (ct_X1_returnTo ok HH hnx HR H) vX11_311 rfl (x_recv (by with_reducible repeat first | assumption | exact hset_s | refine hget_n (by first | assumption | exact Ne.symm (by assumption) | exact nA ok (by omega) (by omega) (by omega)) ?_) rfl) rfl ⟨ble rfl, ble rfl⟩ (ble rfl) dX11_carryOut_38 rfl ⟨by omega, by omega⟩ (fun h38 q38 => ?_)
  obtain ⟨H2, F2⟩ := q38
  have hst2 := F2 _ _ hst (nB ok (by omega) (by omega) (by omega))
  have R2 : RsW G h38 c f d := ⟨F2 _ _ R.1 (nB ok (by omega) (by omega) (by omega)), F2 _ _ R.2.1 (nB ok (by omega) (by omega) (by omega)), F2 _ _ R.2.2 (nB ok (by omega) (by omega) (by omega))⟩
  first | refine x_aload_n 2 dX11_carryOut_41 rfl rfl ?_ | refine x_aload_nN 2 dX11_carryOut_41 rfl rfl ?_
  refine x_iload_n 1 dX11_carryOut_42 rfl rfl ?_
  refine x_iload_n 0 dX11_carryOut_43 rfl rfl ?_
  refine x_callW (mc1 := 0) (ms1 := 0) (As := [.int _, .int _]) (ct_refuseText_3 ok hst2 R2 _ hc) vX11_314 rfl (x_recv hst2 rfl) rfl ⟨ble rfl, ble rfl⟩ (ble rfl) dX11_carryOut_44 rfl ⟨by omega, by omega⟩ (fun w h1 q1 => ?_)
  obtain ⟨rfl, f', d', R3, e1, e2, e3, F3⟩ := q1
  refine x_iret rfl dX11_carryOut_47 ?_
  exact hQ _ _ f' d' H2 F2 F3 R3 e1 e2 e3
set_option maxRecDepth 100000 in
set_option maxHeartbeats 1000000 in
theorem xr_to {l : Launch} {G : Gl} {h : Hp} (ok : Ok G) {isv flt k0 o3 : Int32} {N : Nat → Int32} {ns np no : Nat} {M : Nat → Int32} {nx cn ms mp mo : Nat} (HH : HiW G h nx cn) (hnx : nx < 9) (HR : ShW G h (100 * (nx + 1)) M ms mp mo) (hst : h (Ad G 0) = some (eSt G isv flt)) (H : ShW G h 1000 N ns np no) {c : Nat} {f d : Nat → Int32} (R : RsW G h c f d) (ho : ¬ o3 = -3) {Q : Option Value → Hp → Prop} (hQ : ∀ h2 h' f' d', ShW G h2 1000 M ms mp mo → Fr (inB G 1000 60) h h2 → Fr (inB G 2 3) h2 h' → RsW G h' 1 f' d' → f' 0 = 14 → d' 0 = k0  → Q (some (.int (-3))) h') : XX l G mX11_carryOut (Rm 12 0 0) (KQ G (Rm 12 0 0) Q) 0 0 30 [(2, .int o3), (1, .int k0), (0, .ref (Ad G 0))] [] h := by
  have h5 := HH.1
  have hsh := H.1
  first | refine x_aload_n 2 dX11_carryOut_30 rfl rfl ?_ | refine x_aload_nN 2 dX11_carryOut_30 rfl rfl ?_
  refine x_get fX11_35 rfl dX11_carryOut_31 (by with_reducible repeat first | assumption | exact hset_s | refine hget_n (by first | assumption | exact Ne.symm (by assumption) | exact nA ok (by omega) (by omega) (by omega)) ?_) (by rfl) ?_
  first | refine x_aload_n 2 dX11_carryOut_34 rfl rfl ?_ | refine x_aload_nN 2 dX11_carryOut_34 rfl rfl ?_
  refine x_get fX11_20 rfl dX11_carryOut_35 (by with_reducible repeat first | assumption | exact hset_s | refine hget_n (by first | assumption | exact Ne.symm (by assumption) | exact nA ok (by omega) (by omega) (by omega)) ?_) (by rfl) ?_
  refine x_pV0 (mc1 := 0) (ms1 := 0) (As := [.ref _]) (ct_X1_returnTo ok HH hnx HR H) vX11_311 rfl (x_recv (by with_reducible repeat first | assumption | exact hset_s | refine hget_n (by first | assumption | exact Ne.symm (by assumption) | exact nA ok (by omega) (by omega) (by omega)) ?_) rfl) rfl ⟨ble rfl, ble rfl⟩ (ble rfl) dX11_carryOut_38 rfl ⟨by omega, by omega⟩ (fun h38 q38 => ?_)
  obtain ⟨H2, F2⟩ := q38
  have hst2 := F2 _ _ hst (nB ok (by omega) (by omega) (by omega))
  have R2 : RsW G h38 c f d := ⟨F2 _ _ R.1 (nB ok (by omega) (by omega) (by omega)), F2 _ _ R.2.1 (nB ok (by omega) (by omega) (by omega)), F2 _ _ R.2.2 (nB ok (by omega) (by omega) (by omega))⟩
  first | refine x_aload_n 2 dX11_carryOut_41 rfl rfl ?_ | refine x_aload_nN 2 dX11_carryOut_41 rfl rfl ?_
  refine x_iload_n 1 dX11_carryOut_42 rfl rfl ?_
  refine x_iload_n 0 dX11_carryOut_43 rfl rfl ?_
  refine x_callW (mc1 := 0) (ms1 := 0) (As := [.int _, .int _]) (ct_refuseText_o ok hst2 R2 _ ho) vX11_314 rfl (x_recv hst2 rfl) rfl ⟨ble rfl, ble rfl⟩ (ble rfl) dX11_carryOut_44 rfl ⟨by omega, by omega⟩ (fun w h1 q1 => ?_)
  obtain ⟨rfl, f', d', R3, e1, e2, F3⟩ := q1
  refine x_iret rfl dX11_carryOut_47 ?_
  exact hQ _ _ f' d' H2 F2 F3 R3 e1 e2
