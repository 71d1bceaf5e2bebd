/-- what the class's cells hold behind a deed -/
def DeP (G : Gl) (h : Hp) (o : Out) (N : Nat → Int32) (ns np no nx cn : Nat) (h' : Hp) : Prop := ShW G h' (100 * (nx + 1)) N ns np no ∧ match o with
  | .inl _ => Fr (inB G (100 * (nx + 1)) 60) h h'
  | .inr (.inl (w, dd, b, i)) => (∃ f' d', (b = 0 → RsW G h' 1 f' d') ∧ (¬ b = 0 → RsW G h' 2 f' d' ∧ f' 1 = b ∧ d' 1 = i) ∧ f' 0 = w ∧ d' 0 = dd) ∧ Fr (fun a => inB G 2 3 a ∨ inB G (100 * (nx + 1)) 60 a) h h'
  | .inr (.inr (_, N')) => (∃ ns' np' no', ShW G h' 1000 N' ns' np' no') ∧ HiW G h' ((nx + 1) % 9) (min (cn + 1) 8) ∧ Fr (fun a => a = Ad G 5 ∨ inB G 1000 60 a ∨ inB G (100 * (nx + 1)) 60 a) h h'
set_option maxRecDepth 100000 in
set_option maxHeartbeats 1000000 in
theorem ct_kept_n {l : Launch} {G : Gl} {h : Hp} {isv flt x : Int32} (hst : h (Ad G 0) = some (eSt G isv flt)) (hx : x < 0) : CtR l G mX11_kept 4 [.ref (Ad G 0), .int x] h (some (.int x)) (h) := by
  refine Ct.of (L := [(0, _), (1, _)]) (by decide) (ble rfl) rfl ?_
  refine x_iload_n 1 dX11_kept_0 rfl rfl ?_
  refine x_if_lt 11 dX11_kept_1 (by decide) (fun _ => ?_) (fun z => by first | exact absurd (hx) z | exact absurd z (hx))
  refine x_iload_n 1 dX11_kept_11 rfl rfl ?_
  refine x_iret rfl dX11_kept_12 ?_
  show some (Value.int x) = some (Value.int x) ∧ h = h
  exact ⟨rfl, rfl⟩
set_option maxRecDepth 100000 in
set_option maxHeartbeats 1000000 in
theorem ct_kept_y {l : Launch} {G : Gl} {h : Hp} {isv flt x : Int32} {nx cn : Nat} (ok : Ok G) (hst : h (Ad G 0) = some (eSt G isv flt)) (HH : HiW G h nx cn) (hnx : nx < 9) (hcn : cn ≤ 8) (hx : 0 ≤ x) : CtR l G mX11_kept 4 [.ref (Ad G 0), .int x] h (some (.int x)) (hset h (Ad G 5) (.inr (2, [.ref (Ad G 6), .int (nI ((nx + 1) % 9)), .int (nI (min (cn + 1) 8))]))) := by
  have h5 := HH.1
  refine Ct.of (L := [(0, _), (1, _)]) (by decide) (ble rfl) rfl ?_
  refine x_iload_n 1 dX11_kept_0 rfl rfl ?_
  refine x_if_lt 11 dX11_kept_1 (by decide) (fun z => by first | exact absurd z (Int32.not_lt.mpr hx) | exact absurd (Int32.not_lt.mpr hx) z) (fun _ => ?_)
  first | refine x_aload_n 0 dX11_kept_4 rfl rfl ?_ | refine x_aload_nN 0 dX11_kept_4 rfl rfl ?_
  refine x_get fX11_35 rfl dX11_kept_5 (by with_reducible repeat first | assumption | exact hset_s | refine hget_n (by first | assumption | exact Ne.symm (by assumption) | exact nA ok (by omega) (by omega) (by omega)) ?_) (by rfl) ?_
  refine x_cV0 (As := []) (ct_X1_keep HH ok hnx (by omega)) vX11_303 rfl (x_recv (by with_reducible repeat first | assumption | exact hset_s | refine hget_n (by first | assumption | exact Ne.symm (by assumption) | exact nA ok (by omega) (by omega) (by omega)) ?_) rfl) rfl ⟨ble rfl, ble rfl⟩ (ble rfl) dX11_kept_8 rfl ?_
  refine x_iload_n 1 dX11_kept_11 rfl rfl ?_
  refine x_iret rfl dX11_kept_12 ?_
  show some (Value.int x) = some (Value.int x) ∧ hset h (Ad G 5) (.inr (2, [.ref (Ad G 6), .int (nI ((nx + 1) % 9)), .int (nI (min (cn + 1) 8))])) = hset h (Ad G 5) (.inr (2, [.ref (Ad G 6), .int (nI ((nx + 1) % 9)), .int (nI (min (cn + 1) 8))]))
  exact ⟨rfl, rfl⟩
theorem ct_sRaise {l : Launch} {G : Gl} {h : Hp} {N : Nat → Int32} {ns np no c : Nat} {f d : Nat → Int32} (ok : Ok G) (H : ShW G h 1000 N ns np no) (R : RsW G h c f d) (hm : h (Ad G 1) = some (.inr (9, [.ref (Ad G 1000), .ref (Ad G 2)]))) (x y : Int32) : CtP l G mX9_raisePot 3 0 0 [.ref (Ad G 1), .int x, .int y] h (some (.int (ansC (pRaise N x y)))) (fun h' => SmP G h (pRaise N x y) N ns np no c f d h') := by
  obtain ⟨-, -, -, -, -, hns, hnp, hno, bs, bp, bo, -⟩ := id H
  by_cases q : 0 ≤ x ∧ x < N 2
  · obtain ⟨i, hi, rfl⟩ := rg_of (x := x) (n := ns) (by omega) (by rw [← hns]; exact q)
    by_cases q2 : 0 ≤ y ∧ y < 3
    · obtain ⟨k, hk, rfl⟩ := rg_of (x := y) (n := 3) (by omega) q2
      exact ct_X9_raisePot_ii ok H R hm hi hk
    · exact ct_X9_raisePot_io ok H R hm hi y q2
  · exact ct_X9_raisePot_o ok H R hm x y q
theorem ct_sHit {l : Launch} {G : Gl} {h : Hp} {N : Nat → Int32} {ns np no c : Nat} {f d : Nat → Int32} (ok : Ok G) (H : ShW G h 1000 N ns np no) (R : RsW G h c f d) (hm : h (Ad G 1) = some (.inr (9, [.ref (Ad G 1000), .ref (Ad G 2)]))) (x y : Int32) : CtP l G mX9_hit 4 0 0 [.ref (Ad G 1), .int x, .int y] h (some (.int (ansC (pHit N x y)))) (fun h' => SmP G h (pHit N x y) N ns np no c f d h') := by
  obtain ⟨-, -, -, -, -, hns, hnp, hno, bs, bp, bo, -⟩ := id H
  by_cases q : 0 ≤ x ∧ x < N 3
  · obtain ⟨i, hi, rfl⟩ := rg_of (x := x) (n := np) (by omega) (by rw [← hnp]; exact q)
    exact ct_X9_hit_i ok H R hm hi y
  · exact ct_X9_hit_o ok H R hm x y q
theorem ct_sTin {l : Launch} {G : Gl} {h : Hp} {N : Nat → Int32} {ns np no c : Nat} {f d : Nat → Int32} (ok : Ok G) (H : ShW G h 1000 N ns np no) (R : RsW G h c f d) (hm : h (Ad G 1) = some (.inr (9, [.ref (Ad G 1000), .ref (Ad G 2)]))) (x y : Int32) : CtP l G mX9_coat 4 0 0 [.ref (Ad G 1), .int x, .int y] h (some (.int (ansC (pTin N x y)))) (fun h' => SmP G h (pTin N x y) N ns np no c f d h') := by
  obtain ⟨-, -, -, -, -, hns, hnp, hno, bs, bp, bo, -⟩ := id H
  by_cases q : 0 ≤ x ∧ x < N 3
  · obtain ⟨i, hi, rfl⟩ := rg_of (x := x) (n := np) (by omega) (by rw [← hnp]; exact q)
    exact ct_X9_coat_i ok H R hm hi y
  · exact ct_X9_coat_o ok H R hm x y q
theorem ct_sCook {l : Launch} {G : Gl} {h : Hp} {N : Nat → Int32} {ns np no c : Nat} {f d : Nat → Int32} (ok : Ok G) (H : ShW G h 1000 N ns np no) (R : RsW G h c f d) (hm : h (Ad G 1) = some (.inr (9, [.ref (Ad G 1000), .ref (Ad G 2)]))) (AP : ∀ i, i < np → PotI N i) (x y : Int32) : CtP l G mX9_use 4 0 0 [.ref (Ad G 1), .int x, .int y] h (some (.int (ansC (pCook N x y)))) (fun h' => SmP G h (pCook N x y) N ns np no c f d h') := by
  obtain ⟨-, -, -, -, -, hns, hnp, hno, bs, bp, bo, -⟩ := id H
  by_cases q : 0 ≤ x ∧ x < N 3
  · obtain ⟨i, hi, rfl⟩ := rg_of (x := x) (n := np) (by omega) (by rw [← hnp]; exact q)
    obtain ⟨-, -, -, ⟨t, ht, ht9⟩, ⟨r, hr, hr6⟩⟩ := AP i hi
    exact ct_X9_use_i ok H R hm hi ht ht9 hr (by omega) y
  · exact ct_X9_use_o ok H R hm x y q
theorem ct_sBaker {l : Launch} {G : Gl} {h : Hp} {N : Nat → Int32} {ns np no c : Nat} {f d : Nat → Int32} (ok : Ok G) (H : ShW G h 1000 N ns np no) (R : RsW G h c f d) (hm : h (Ad G 1) = some (.inr (9, [.ref (Ad G 1000), .ref (Ad G 2)]))) (x y z : Int32) : CtP l G mX9_takeOrder 4 0 0 [.ref (Ad G 1), .int x, .int y, .int z] h (some (.int (ansC (pBaker N x y z)))) (fun h' => SmP G h (pBaker N x y z) N ns np no c f d h') := by
  by_cases q : 0 ≤ x ∧ x < 3
  · obtain ⟨k, hk, rfl⟩ := rg_of (x := x) (n := 3) (by omega) q
    exact ct_X9_takeOrder_i ok H R hm hk y z
  · exact ct_X9_takeOrder_o ok H R hm x y z q
theorem ct_sSell {l : Launch} {G : Gl} {h : Hp} {N : Nat → Int32} {ns np no c : Nat} {f d : Nat → Int32} (ok : Ok G) (H : ShW G h 1000 N ns np no) (R : RsW G h c f d) (hm : h (Ad G 1) = some (.inr (9, [.ref (Ad G 1000), .ref (Ad G 2)]))) (x y : Int32) : CtP l G mX9_handOver 5 0 0 [.ref (Ad G 1), .int x, .int y] h (some (.int (ansC (pSell N x y)))) (fun h' => SmP G h (pSell N x y) N ns np no c f d h') := by
  obtain ⟨-, -, -, -, -, hns, hnp, hno, bs, bp, bo, -⟩ := id H
  by_cases q : 0 ≤ x ∧ x < N 3
  · obtain ⟨i, hi, rfl⟩ := rg_of (x := x) (n := np) (by omega) (by rw [← hnp]; exact q)
    by_cases q2 : 0 ≤ y ∧ y < N 4
    · obtain ⟨j, hj, rfl⟩ := rg_of (x := y) (n := no) (by omega) (by rw [← hno]; exact q2)
      exact ct_X9_handOver_ii ok H R hm hi hj
    · exact ct_X9_handOver_io ok H R hm hi y q2
  · by_cases q2 : 0 ≤ y ∧ y < N 4
    · obtain ⟨j, hj, rfl⟩ := rg_of (x := y) (n := no) (by omega) (by rw [← hno]; exact q2)
      exact ct_X9_handOver_oi ok H R hm x q hj
    · exact ct_X9_handOver_oo ok H R hm x y q q2
set_option maxRecDepth 100000 in
set_option maxHeartbeats 1000000 in
theorem ct_xsheet {l : Launch} {G : Gl} {h : Hp} {N M : Nat → Int32} {ns np no ms mp mo c nx cn : Nat} {f d : Nat → Int32} {isv flt : Int32} (ok : Ok G) (hst : h (Ad G 0) = some (eSt G isv flt)) (H : ShW G h 1000 N ns np no) (R : RsW G h c f d) (hm : h (Ad G 1) = some (.inr (9, [.ref (Ad G 1000), .ref (Ad G 2)]))) (HH : HiW G h nx cn) (hnx : nx < 9) (hcn : cn ≤ 8) (HR : ShW G h (100 * (nx + 1)) M ms mp mo) (x y : Int32) (hok : OutOk (pSheet N x y)) : Ct l G mX11_sheet 6 0 0 [.ref (Ad G 0), .int x, .int y] h (fun w h' => w = some (.int (ansC (pSheet N x y))) ∧ DeP G h (pSheet N x y) N ns np no nx cn h') := by
  refine Ct.of (L := [(0, _), (1, _), (2, _)]) (by decide) (ble rfl) rfl ?_
  first | refine x_aload_n 0 dX11_sheet_0 rfl rfl ?_ | refine x_aload_nN 0 dX11_sheet_0 rfl rfl ?_
  refine x_get fX11_35 rfl dX11_sheet_1 (by with_reducible repeat first | assumption | exact hset_s | refine hget_n (by first | assumption | exact Ne.symm (by assumption) | exact nA ok (by omega) (by omega) (by omega)) ?_) (by rfl) ?_
  first | refine x_aload_n 0 dX11_sheet_4 rfl rfl ?_ | refine x_aload_nN 0 dX11_sheet_4 rfl rfl ?_
  refine x_get fX11_20 rfl dX11_sheet_5 (by with_reducible repeat first | assumption | exact hset_s | refine hget_n (by first | assumption | exact Ne.symm (by assumption) | exact nA ok (by omega) (by omega) (by omega)) ?_) (by rfl) ?_
  refine x_pV0 (mc1 := 0) (ms1 := 0) (As := [.ref _]) (ct_X1_note ok HH hnx HR H) vX11_81 rfl (x_recv HH.1 rfl) rfl ⟨ble rfl, ble rfl⟩ (ble rfl) dX11_sheet_8 rfl ⟨by omega, by omega⟩ (fun h8 q8 => ?_)
  obtain ⟨HR8, F8⟩ := q8
  have hst8 := F8 _ _ hst (nB ok (by omega) (by omega) (by omega))
  have hm8 := F8 _ _ hm (nB ok (by omega) (by omega) (by omega))
  have H8 := H.fr F8 (fun i hi => (nB ok (by omega) (by omega) (by omega)))
  have R8 : RsW G h8 c f d := ⟨F8 _ _ R.1 (nB ok (by omega) (by omega) (by omega)), F8 _ _ R.2.1 (nB ok (by omega) (by omega) (by omega)), F8 _ _ R.2.2 (nB ok (by omega) (by omega) (by omega))⟩
  have HH8 : HiW G h8 nx cn := ⟨F8 _ _ HH.1 (nB ok (by omega) (by omega) (by omega)), F8 _ _ HH.2 (nB ok (by omega) (by omega) (by omega))⟩
  have h58 := HH8.1
  first | refine x_aload_n 0 dX11_sheet_11 rfl rfl ?_ | refine x_aload_nN 0 dX11_sheet_11 rfl rfl ?_
  first | refine x_aload_n 0 dX11_sheet_12 rfl rfl ?_ | refine x_aload_nN 0 dX11_sheet_12 rfl rfl ?_
  refine x_get fX11_10 rfl dX11_sheet_13 (by with_reducible repeat first | assumption | exact hset_s | refine hget_n (by first | assumption | exact Ne.symm (by assumption) | exact nA ok (by omega) (by omega) (by omega)) ?_) (by rfl) ?_
  refine x_iload_n 1 dX11_sheet_16 rfl rfl ?_
  refine x_iload_n 2 dX11_sheet_17 rfl rfl ?_
  refine x_pV1 (mc1 := 0) (ms1 := 0) (As := [.int _, .int _]) (ct_X9_buySheet ok H8 R8 hm8 _ _) vX11_85 rfl (x_recv hm8 rfl) rfl ⟨ble rfl, ble rfl⟩ (ble rfl) dX11_sheet_18 rfl ⟨by omega, by omega⟩ (fun h18 q18 => ?_)
  rcases hout : (pSheet N x y) with c1 | (⟨w, dd, b, i⟩ | ⟨v, N2⟩)
  · rw [hout] at q18 hok
    have e18 : h18 = h8 := q18
    subst e18
    refine x_cV1 (As := [.int _]) (ct_kept_n hst8 hok) vX11_89 rfl (x_recv (by with_reducible repeat first | assumption | exact hset_s | refine hget_n (by first | assumption | exact Ne.symm (by assumption) | exact nA ok (by omega) (by omega) (by omega)) ?_) rfl) rfl ⟨ble rfl, ble rfl⟩ (ble rfl) dX11_sheet_21 rfl ?_
    refine x_iret rfl dX11_sheet_24 ?_
    exact ⟨rfl, HR8, F8⟩
  · rw [hout] at q18
    obtain ⟨ex, Fd⟩ := q18
    have hst9 := Fd _ _ hst8 (nB ok (by omega) (by omega) (by omega))
    have HR9 := HR8.fr Fd (fun i hi => (nB ok (by omega) (by omega) (by omega)))
    refine x_cV1 (As := [.int _]) (ct_kept_n hst9 (show (-3 : Int32) < 0 by decide)) vX11_89 rfl (x_recv (by with_reducible repeat first | assumption | exact hset_s | refine hget_n (by first | assumption | exact Ne.symm (by assumption) | exact nA ok (by omega) (by omega) (by omega)) ?_) rfl) rfl ⟨ble rfl, ble rfl⟩ (ble rfl) dX11_sheet_21 rfl ?_
    refine x_iret rfl dX11_sheet_24 ?_
    exact ⟨rfl, HR9, ex, F8.tr Fd (fun _ z => Or.inr z) (fun _ z => Or.inl z)⟩
  · rw [hout] at q18 hok
    obtain ⟨⟨n1, n2, n3, H9⟩, Fd⟩ := q18
    have hst9 := Fd _ _ hst8 (nB ok (by omega) (by omega) (by omega))
    have HR9 := HR8.fr Fd (fun i hi => (nB ok (by omega) (by omega) (by omega)))
    have HH9 : HiW G _ nx cn := ⟨Fd _ _ HH8.1 (nB ok (by omega) (by omega) (by omega)), Fd _ _ HH8.2 (nB ok (by omega) (by omega) (by omega))⟩
    have n56 := nA ok (show 6 < 3000 by omega) (show 5 < 3000 by omega) (by omega)
    refine x_cV1 (As := [.int _]) (ct_kept_y ok hst9 HH9 hnx hcn hok) vX11_89 rfl (x_recv (by with_reducible repeat first | assumption | exact hset_s | refine hget_n (by first | assumption | exact Ne.symm (by assumption) | exact nA ok (by omega) (by omega) (by omega)) ?_) rfl) rfl ⟨ble rfl, ble rfl⟩ (ble rfl) dX11_sheet_21 rfl ?_
    refine x_iret rfl dX11_sheet_24 ?_
    have F5 : Fr (fun a => a = Ad G 5) h18 (hset h18 (Ad G 5) (.inr (2, [.ref (Ad G 6), .int (nI ((nx + 1) % 9)), .int (nI (min (cn + 1) 8))]))) := Fr.rf.st rfl
    exact ⟨rfl, HR9.fr F5 (fun i hi e => nA ok (by omega) (by omega) (by omega) e), ⟨n1, n2, n3, H9.fr F5 (fun i hi e => nA ok (by omega) (by omega) (by omega) e)⟩, ⟨hset_s, hget_n n56 HH9.2⟩, (F8.tr Fd (Q := fun a => a = Ad G 5 ∨ inB G 1000 60 a ∨ inB G (100 * (nx + 1)) 60 a) (fun _ z => Or.inr (Or.inr z)) (fun _ z => Or.inr (Or.inl z))).st (Or.inl rfl)⟩
set_option maxRecDepth 100000 in
set_option maxHeartbeats 1000000 in
theorem ct_xraise {l : Launch} {G : Gl} {h : Hp} {N M : Nat → Int32} {ns np no ms mp mo c nx cn : Nat} {f d : Nat → Int32} {isv flt : Int32} (ok : Ok G) (hst : h (Ad G 0) = some (eSt G isv flt)) (H : ShW G h 1000 N ns np no) (R : RsW G h c f d) (hm : h (Ad G 1) = some (.inr (9, [.ref (Ad G 1000), .ref (Ad G 2)]))) (HH : HiW G h nx cn) (hnx : nx < 9) (hcn : cn ≤ 8) (HR : ShW G h (100 * (nx + 1)) M ms mp mo) (x y : Int32) (hok : OutOk (pRaise N x y)) : Ct l G mX11_raise 6 0 0 [.ref (Ad G 0), .int x, .int y] h (fun w h' => w = some (.int (ansC (pRaise N x y))) ∧ DeP G h (pRaise N x y) N ns np no nx cn h') := by
  refine Ct.of (L := [(0, _), (1, _), (2, _)]) (by decide) (ble rfl) rfl ?_
  first | refine x_aload_n 0 dX11_raise_0 rfl rfl ?_ | refine x_aload_nN 0 dX11_raise_0 rfl rfl ?_
  refine x_get fX11_35 rfl dX11_raise_1 (by with_reducible repeat first | assumption | exact hset_s | refine hget_n (by first | assumption | exact Ne.symm (by assumption) | exact nA ok (by omega) (by omega) (by omega)) ?_) (by rfl) ?_
  first | refine x_aload_n 0 dX11_raise_4 rfl rfl ?_ | refine x_aload_nN 0 dX11_raise_4 rfl rfl ?_
  refine x_get fX11_20 rfl dX11_raise_5 (by with_reducible repeat first | assumption | exact hset_s | refine hget_n (by first | assumption | exact Ne.symm (by assumption) | exact nA ok (by omega) (by omega) (by omega)) ?_) (by rfl) ?_
  refine x_pV0 (mc1 := 0) (ms1 := 0) (As := [.ref _]) (ct_X1_note ok HH hnx HR H) vX11_81 rfl (x_recv HH.1 rfl) rfl ⟨ble rfl, ble rfl⟩ (ble rfl) dX11_raise_8 rfl ⟨by omega, by omega⟩ (fun h8 q8 => ?_)
  obtain ⟨HR8, F8⟩ := q8
  have hst8 := F8 _ _ hst (nB ok (by omega) (by omega) (by omega))
  have hm8 := F8 _ _ hm (nB ok (by omega) (by omega) (by omega))
  have H8 := H.fr F8 (fun i hi => (nB ok (by omega) (by omega) (by omega)))
  have R8 : RsW G h8 c f d := ⟨F8 _ _ R.1 (nB ok (by omega) (by omega) (by omega)), F8 _ _ R.2.1 (nB ok (by omega) (by omega) (by omega)), F8 _ _ R.2.2 (nB ok (by omega) (by omega) (by omega))⟩
  have HH8 : HiW G h8 nx cn := ⟨F8 _ _ HH.1 (nB ok (by omega) (by omega) (by omega)), F8 _ _ HH.2 (nB ok (by omega) (by omega) (by omega))⟩
  have h58 := HH8.1
  first | refine x_aload_n 0 dX11_raise_11 rfl rfl ?_ | refine x_aload_nN 0 dX11_raise_11 rfl rfl ?_
  first | refine x_aload_n 0 dX11_raise_12 rfl rfl ?_ | refine x_aload_nN 0 dX11_raise_12 rfl rfl ?_
  refine x_get fX11_10 rfl dX11_raise_13 (by with_reducible repeat first | assumption | exact hset_s | refine hget_n (by first | assumption | exact Ne.symm (by assumption) | exact nA ok (by omega) (by omega) (by omega)) ?_) (by rfl) ?_
  refine x_iload_n 1 dX11_raise_16 rfl rfl ?_
  refine x_iload_n 2 dX11_raise_17 rfl rfl ?_
  refine x_pV1 (mc1 := 0) (ms1 := 0) (As := [.int _, .int _]) (ct_sRaise ok H8 R8 hm8 _ _) vX11_93 rfl (x_recv hm8 rfl) rfl ⟨ble rfl, ble rfl⟩ (ble rfl) dX11_raise_18 rfl ⟨by omega, by omega⟩ (fun h18 q18 => ?_)
  rcases hout : (pRaise N x y) with c1 | (⟨w, dd, b, i⟩ | ⟨v, N2⟩)
  · rw [hout] at q18 hok
    have e18 : h18 = h8 := q18
    subst e18
    refine x_cV1 (As := [.int _]) (ct_kept_n hst8 hok) vX11_89 rfl (x_recv (by with_reducible repeat first | assumption | exact hset_s | refine hget_n (by first | assumption | exact Ne.symm (by assumption) | exact nA ok (by omega) (by omega) (by omega)) ?_) rfl) rfl ⟨ble rfl, ble rfl⟩ (ble rfl) dX11_raise_21 rfl ?_
    refine x_iret rfl dX11_raise_24 ?_
    exact ⟨rfl, HR8, F8⟩
  · rw [hout] at q18
    obtain ⟨ex, Fd⟩ := q18
    have hst9 := Fd _ _ hst8 (nB ok (by omega) (by omega) (by omega))
    have HR9 := HR8.fr Fd (fun i hi => (nB ok (by omega) (by omega) (by omega)))
    refine x_cV1 (As := [.int _]) (ct_kept_n hst9 (show (-3 : Int32) < 0 by decide)) vX11_89 rfl (x_recv (by with_reducible repeat first | assumption | exact hset_s | refine hget_n (by first | assumption | exact Ne.symm (by assumption) | exact nA ok (by omega) (by omega) (by omega)) ?_) rfl) rfl ⟨ble rfl, ble rfl⟩ (ble rfl) dX11_raise_21 rfl ?_
    refine x_iret rfl dX11_raise_24 ?_
    exact ⟨rfl, HR9, ex, F8.tr Fd (fun _ z => Or.inr z) (fun _ z => Or.inl z)⟩
  · rw [hout] at q18 hok
    obtain ⟨⟨n1, n2, n3, H9⟩, Fd⟩ := q18
    have hst9 := Fd _ _ hst8 (nB ok (by omega) (by omega) (by omega))
    have HR9 := HR8.fr Fd (fun i hi => (nB ok (by omega) (by omega) (by omega)))
    have HH9 : HiW G _ nx cn := ⟨Fd _ _ HH8.1 (nB ok (by omega) (by omega) (by omega)), Fd _ _ HH8.2 (nB ok (by omega) (by omega) (by omega))⟩
    have n56 := nA ok (show 6 < 3000 by omega) (show 5 < 3000 by omega) (by omega)
    refine x_cV1 (As := [.int _]) (ct_kept_y ok hst9 HH9 hnx hcn hok) vX11_89 rfl (x_recv (by with_reducible repeat first | assumption | exact hset_s | refine hget_n (by first | assumption | exact Ne.symm (by assumption) | exact nA ok (by omega) (by omega) (by omega)) ?_) rfl) rfl ⟨ble rfl, ble rfl⟩ (ble rfl) dX11_raise_21 rfl ?_
    refine x_iret rfl dX11_raise_24 ?_
    have F5 : Fr (fun a => a = Ad G 5) h18 (hset h18 (Ad G 5) (.inr (2, [.ref (Ad G 6), .int (nI ((nx + 1) % 9)), .int (nI (min (cn + 1) 8))]))) := Fr.rf.st rfl
    exact ⟨rfl, HR9.fr F5 (fun i hi e => nA ok (by omega) (by omega) (by omega) e), ⟨n1, n2, n3, H9.fr F5 (fun i hi e => nA ok (by omega) (by omega) (by omega) e)⟩, ⟨hset_s, hget_n n56 HH9.2⟩, (F8.tr Fd (Q := fun a => a = Ad G 5 ∨ inB G 1000 60 a ∨ inB G (100 * (nx + 1)) 60 a) (fun _ z => Or.inr (Or.inr z)) (fun _ z => Or.inr (Or.inl z))).st (Or.inl rfl)⟩
set_option maxRecDepth 100000 in
set_option maxHeartbeats 1000000 in
theorem ct_xplanish {l : Launch} {G : Gl} {h : Hp} {N M : Nat → Int32} {ns np no ms mp mo c nx cn : Nat} {f d : Nat → Int32} {isv flt : Int32} (ok : Ok G) (hst : h (Ad G 0) = some (eSt G isv flt)) (H : ShW G h 1000 N ns np no) (R : RsW G h c f d) (hm : h (Ad G 1) = some (.inr (9, [.ref (Ad G 1000), .ref (Ad G 2)]))) (HH : HiW G h nx cn) (hnx : nx < 9) (hcn : cn ≤ 8) (HR : ShW G h (100 * (nx + 1)) M ms mp mo) (x y : Int32) (hok : OutOk (pHit N x y)) : Ct l G mX11_planish 6 0 0 [.ref (Ad G 0), .int x, .int y] h (fun w h' => w = some (.int (ansC (pHit N x y))) ∧ DeP G h (pHit N x y) N ns np no nx cn h') := by
  refine Ct.of (L := [(0, _), (1, _), (2, _)]) (by decide) (ble rfl) rfl ?_
  first | refine x_aload_n 0 dX11_planish_0 rfl rfl ?_ | refine x_aload_nN 0 dX11_planish_0 rfl rfl ?_
  refine x_get fX11_35 rfl dX11_planish_1 (by with_reducible repeat first | assumption | exact hset_s | refine hget_n (by first | assumption | exact Ne.symm (by assumption) | exact nA ok (by omega) (by omega) (by omega)) ?_) (by rfl) ?_
  first | refine x_aload_n 0 dX11_planish_4 rfl rfl ?_ | refine x_aload_nN 0 dX11_planish_4 rfl rfl ?_
  refine x_get fX11_20 rfl dX11_planish_5 (by with_reducible repeat first | assumption | exact hset_s | refine hget_n (by first | assumption | exact Ne.symm (by assumption) | exact nA ok (by omega) (by omega) (by omega)) ?_) (by rfl) ?_
  refine x_pV0 (mc1 := 0) (ms1 := 0) (As := [.ref _]) (ct_X1_note ok HH hnx HR H) vX11_81 rfl (x_recv HH.1 rfl) rfl ⟨ble rfl, ble rfl⟩ (ble rfl) dX11_planish_8 rfl ⟨by omega, by omega⟩ (fun h8 q8 => ?_)
  obtain ⟨HR8, F8⟩ := q8
  have hst8 := F8 _ _ hst (nB ok (by omega) (by omega) (by omega))
  have hm8 := F8 _ _ hm (nB ok (by omega) (by omega) (by omega))
  have H8 := H.fr F8 (fun i hi => (nB ok (by omega) (by omega) (by omega)))
  have R8 : RsW G h8 c f d := ⟨F8 _ _ R.1 (nB ok (by omega) (by omega) (by omega)), F8 _ _ R.2.1 (nB ok (by omega) (by omega) (by omega)), F8 _ _ R.2.2 (nB ok (by omega) (by omega) (by omega))⟩
  have HH8 : HiW G h8 nx cn := ⟨F8 _ _ HH.1 (nB ok (by omega) (by omega) (by omega)), F8 _ _ HH.2 (nB ok (by omega) (by omega) (by omega))⟩
  have h58 := HH8.1
  first | refine x_aload_n 0 dX11_planish_11 rfl rfl ?_ | refine x_aload_nN 0 dX11_planish_11 rfl rfl ?_
  first | refine x_aload_n 0 dX11_planish_12 rfl rfl ?_ | refine x_aload_nN 0 dX11_planish_12 rfl rfl ?_
  refine x_get fX11_10 rfl dX11_planish_13 (by with_reducible repeat first | assumption | exact hset_s | refine hget_n (by first | assumption | exact Ne.symm (by assumption) | exact nA ok (by omega) (by omega) (by omega)) ?_) (by rfl) ?_
  refine x_iload_n 1 dX11_planish_16 rfl rfl ?_
  refine x_iload_n 2 dX11_planish_17 rfl rfl ?_
  refine x_pV1 (mc1 := 0) (ms1 := 0) (As := [.int _, .int _]) (ct_sHit ok H8 R8 hm8 _ _) vX11_96 rfl (x_recv hm8 rfl) rfl ⟨ble rfl, ble rfl⟩ (ble rfl) dX11_planish_18 rfl ⟨by omega, by omega⟩ (fun h18 q18 => ?_)
  rcases hout : (pHit N x y) with c1 | (⟨w, dd, b, i⟩ | ⟨v, N2⟩)
  · rw [hout] at q18 hok
    have e18 : h18 = h8 := q18
    subst e18
    refine x_cV1 (As := [.int _]) (ct_kept_n hst8 hok) vX11_89 rfl (x_recv (by with_reducible repeat first | assumption | exact hset_s | refine hget_n (by first | assumption | exact Ne.symm (by assumption) | exact nA ok (by omega) (by omega) (by omega)) ?_) rfl) rfl ⟨ble rfl, ble rfl⟩ (ble rfl) dX11_planish_21 rfl ?_
    refine x_iret rfl dX11_planish_24 ?_
    exact ⟨rfl, HR8, F8⟩
  · rw [hout] at q18
    obtain ⟨ex, Fd⟩ := q18
    have hst9 := Fd _ _ hst8 (nB ok (by omega) (by omega) (by omega))
    have HR9 := HR8.fr Fd (fun i hi => (nB ok (by omega) (by omega) (by omega)))
    refine x_cV1 (As := [.int _]) (ct_kept_n hst9 (show (-3 : Int32) < 0 by decide)) vX11_89 rfl (x_recv (by with_reducible repeat first | assumption | exact hset_s | refine hget_n (by first | assumption | exact Ne.symm (by assumption) | exact nA ok (by omega) (by omega) (by omega)) ?_) rfl) rfl ⟨ble rfl, ble rfl⟩ (ble rfl) dX11_planish_21 rfl ?_
    refine x_iret rfl dX11_planish_24 ?_
    exact ⟨rfl, HR9, ex, F8.tr Fd (fun _ z => Or.inr z) (fun _ z => Or.inl z)⟩
  · rw [hout] at q18 hok
    obtain ⟨⟨n1, n2, n3, H9⟩, Fd⟩ := q18
    have hst9 := Fd _ _ hst8 (nB ok (by omega) (by omega) (by omega))
    have HR9 := HR8.fr Fd (fun i hi => (nB ok (by omega) (by omega) (by omega)))
    have HH9 : HiW G _ nx cn := ⟨Fd _ _ HH8.1 (nB ok (by omega) (by omega) (by omega)), Fd _ _ HH8.2 (nB ok (by omega) (by omega) (by omega))⟩
    have n56 := nA ok (show 6 < 3000 by omega) (show 5 < 3000 by omega) (by omega)
    refine x_cV1 (As := [.int _]) (ct_kept_y ok hst9 HH9 hnx hcn hok) vX11_89 rfl (x_recv (by with_reducible repeat first | assumption | exact hset_s | refine hget_n (by first | assumption | exact Ne.symm (by assumption) | exact nA ok (by omega) (by omega) (by omega)) ?_) rfl) rfl ⟨ble rfl, ble rfl⟩ (ble rfl) dX11_planish_21 rfl ?_
    refine x_iret rfl dX11_planish_24 ?_
    have F5 : Fr (fun a => a = Ad G 5) h18 (hset h18 (Ad G 5) (.inr (2, [.ref (Ad G 6), .int (nI ((nx + 1) % 9)), .int (nI (min (cn + 1) 8))]))) := Fr.rf.st rfl
    exact ⟨rfl, HR9.fr F5 (fun i hi e => nA ok (by omega) (by omega) (by omega) e), ⟨n1, n2, n3, H9.fr F5 (fun i hi e => nA ok (by omega) (by omega) (by omega) e)⟩, ⟨hset_s, hget_n n56 HH9.2⟩, (F8.tr Fd (Q := fun a => a = Ad G 5 ∨ inB G 1000 60 a ∨ inB G (100 * (nx + 1)) 60 a) (fun _ z => Or.inr (Or.inr z)) (fun _ z => Or.inr (Or.inl z))).st (Or.inl rfl)⟩
set_option maxRecDepth 100000 in
set_option maxHeartbeats 1000000 in
theorem ct_xbars {l : Launch} {G : Gl} {h : Hp} {N M : Nat → Int32} {ns np no ms mp mo c nx cn : Nat} {f d : Nat → Int32} {isv flt : Int32} (ok : Ok G) (hst : h (Ad G 0) = some (eSt G isv flt)) (H : ShW G h 1000 N ns np no) (R : RsW G h c f d) (hm : h (Ad G 1) = some (.inr (9, [.ref (Ad G 1000), .ref (Ad G 2)]))) (HH : HiW G h nx cn) (hnx : nx < 9) (hcn : cn ≤ 8) (HR : ShW G h (100 * (nx + 1)) M ms mp mo) (x : Int32) (hok : OutOk (pBars N x)) : Ct l G mX11_bars 6 0 0 [.ref (Ad G 0), .int x] h (fun w h' => w = some (.int (ansC (pBars N x))) ∧ DeP G h (pBars N x) N ns np no nx cn h') := by
  refine Ct.of (L := [(0, _), (1, _)]) (by decide) (ble rfl) rfl ?_
  first | refine x_aload_n 0 dX11_bars_0 rfl rfl ?_ | refine x_aload_nN 0 dX11_bars_0 rfl rfl ?_
  refine x_get fX11_35 rfl dX11_bars_1 (by with_reducible repeat first | assumption | exact hset_s | refine hget_n (by first | assumption | exact Ne.symm (by assumption) | exact nA ok (by omega) (by omega) (by omega)) ?_) (by rfl) ?_
  first | refine x_aload_n 0 dX11_bars_4 rfl rfl ?_ | refine x_aload_nN 0 dX11_bars_4 rfl rfl ?_
  refine x_get fX11_20 rfl dX11_bars_5 (by with_reducible repeat first | assumption | exact hset_s | refine hget_n (by first | assumption | exact Ne.symm (by assumption) | exact nA ok (by omega) (by omega) (by omega)) ?_) (by rfl) ?_
  refine x_pV0 (mc1 := 0) (ms1 := 0) (As := [.ref _]) (ct_X1_note ok HH hnx HR H) vX11_81 rfl (x_recv HH.1 rfl) rfl ⟨ble rfl, ble rfl⟩ (ble rfl) dX11_bars_8 rfl ⟨by omega, by omega⟩ (fun h8 q8 => ?_)
  obtain ⟨HR8, F8⟩ := q8
  have hst8 := F8 _ _ hst (nB ok (by omega) (by omega) (by omega))
  have hm8 := F8 _ _ hm (nB ok (by omega) (by omega) (by omega))
  have H8 := H.fr F8 (fun i hi => (nB ok (by omega) (by omega) (by omega)))
  have R8 : RsW G h8 c f d := ⟨F8 _ _ R.1 (nB ok (by omega) (by omega) (by omega)), F8 _ _ R.2.1 (nB ok (by omega) (by omega) (by omega)), F8 _ _ R.2.2 (nB ok (by omega) (by omega) (by omega))⟩
  have HH8 : HiW G h8 nx cn := ⟨F8 _ _ HH.1 (nB ok (by omega) (by omega) (by omega)), F8 _ _ HH.2 (nB ok (by omega) (by omega) (by omega))⟩
  have h58 := HH8.1
  first | refine x_aload_n 0 dX11_bars_11 rfl rfl ?_ | refine x_aload_nN 0 dX11_bars_11 rfl rfl ?_
  first | refine x_aload_n 0 dX11_bars_12 rfl rfl ?_ | refine x_aload_nN 0 dX11_bars_12 rfl rfl ?_
  refine x_get fX11_10 rfl dX11_bars_13 (by with_reducible repeat first | assumption | exact hset_s | refine hget_n (by first | assumption | exact Ne.symm (by assumption) | exact nA ok (by omega) (by omega) (by omega)) ?_) (by rfl) ?_
  refine x_iload_n 1 dX11_bars_16 rfl rfl ?_
  refine x_pV1 (mc1 := 0) (ms1 := 0) (As := [.int _]) (ct_X9_buyBars ok H8 R8 hm8 _) vX11_99 rfl (x_recv hm8 rfl) rfl ⟨ble rfl, ble rfl⟩ (ble rfl) dX11_bars_17 rfl ⟨by omega, by omega⟩ (fun h17 q17 => ?_)
  rcases hout : (pBars N x) with c1 | (⟨w, dd, b, i⟩ | ⟨v, N2⟩)
  · rw [hout] at q17 hok
    have e18 : h17 = h8 := q17
    subst e18
    refine x_cV1 (As := [.int _]) (ct_kept_n hst8 hok) vX11_89 rfl (x_recv (by with_reducible repeat first | assumption | exact hset_s | refine hget_n (by first | assumption | exact Ne.symm (by assumption) | exact nA ok (by omega) (by omega) (by omega)) ?_) rfl) rfl ⟨ble rfl, ble rfl⟩ (ble rfl) dX11_bars_20 rfl ?_
    refine x_iret rfl dX11_bars_23 ?_
    exact ⟨rfl, HR8, F8⟩
  · rw [hout] at q17
    obtain ⟨ex, Fd⟩ := q17
    have hst9 := Fd _ _ hst8 (nB ok (by omega) (by omega) (by omega))
    have HR9 := HR8.fr Fd (fun i hi => (nB ok (by omega) (by omega) (by omega)))
    refine x_cV1 (As := [.int _]) (ct_kept_n hst9 (show (-3 : Int32) < 0 by decide)) vX11_89 rfl (x_recv (by with_reducible repeat first | assumption | exact hset_s | refine hget_n (by first | assumption | exact Ne.symm (by assumption) | exact nA ok (by omega) (by omega) (by omega)) ?_) rfl) rfl ⟨ble rfl, ble rfl⟩ (ble rfl) dX11_bars_20 rfl ?_
    refine x_iret rfl dX11_bars_23 ?_
    exact ⟨rfl, HR9, ex, F8.tr Fd (fun _ z => Or.inr z) (fun _ z => Or.inl z)⟩
  · rw [hout] at q17 hok
    obtain ⟨⟨n1, n2, n3, H9⟩, Fd⟩ := q17
    have hst9 := Fd _ _ hst8 (nB ok (by omega) (by omega) (by omega))
    have HR9 := HR8.fr Fd (fun i hi => (nB ok (by omega) (by omega) (by omega)))
    have HH9 : HiW G _ nx cn := ⟨Fd _ _ HH8.1 (nB ok (by omega) (by omega) (by omega)), Fd _ _ HH8.2 (nB ok (by omega) (by omega) (by omega))⟩
    have n56 := nA ok (show 6 < 3000 by omega) (show 5 < 3000 by omega) (by omega)
    refine x_cV1 (As := [.int _]) (ct_kept_y ok hst9 HH9 hnx hcn hok) vX11_89 rfl (x_recv (by with_reducible repeat first | assumption | exact hset_s | refine hget_n (by first | assumption | exact Ne.symm (by assumption) | exact nA ok (by omega) (by omega) (by omega)) ?_) rfl) rfl ⟨ble rfl, ble rfl⟩ (ble rfl) dX11_bars_20 rfl ?_
    refine x_iret rfl dX11_bars_23 ?_
    have F5 : Fr (fun a => a = Ad G 5) h17 (hset h17 (Ad G 5) (.inr (2, [.ref (Ad G 6), .int (nI ((nx + 1) % 9)), .int (nI (min (cn + 1) 8))]))) := Fr.rf.st rfl
    exact ⟨rfl, HR9.fr F5 (fun i hi e => nA ok (by omega) (by omega) (by omega) e), ⟨n1, n2, n3, H9.fr F5 (fun i hi e => nA ok (by omega) (by omega) (by omega) e)⟩, ⟨hset_s, hget_n n56 HH9.2⟩, (F8.tr Fd (Q := fun a => a = Ad G 5 ∨ inB G 1000 60 a ∨ inB G (100 * (nx + 1)) 60 a) (fun _ z => Or.inr (Or.inr z)) (fun _ z => Or.inr (Or.inl z))).st (Or.inl rfl)⟩
set_option maxRecDepth 100000 in
set_option maxHeartbeats 1000000 in
theorem ct_xtin {l : Launch} {G : Gl} {h : Hp} {N M : Nat → Int32} {ns np no ms mp mo c nx cn : Nat} {f d : Nat → Int32} {isv flt : Int32} (ok : Ok G) (hst : h (Ad G 0) = some (eSt G isv flt)) (H : ShW G h 1000 N ns np no) (R : RsW G h c f d) (hm : h (Ad G 1) = some (.inr (9, [.ref (Ad G 1000), .ref (Ad G 2)]))) (HH : HiW G h nx cn) (hnx : nx < 9) (hcn : cn ≤ 8) (HR : ShW G h (100 * (nx + 1)) M ms mp mo) (x y : Int32) (hok : OutOk (pTin N x y)) : Ct l G mX11_tin 6 0 0 [.ref (Ad G 0), .int x, .int y] h (fun w h' => w = some (.int (ansC (pTin N x y))) ∧ DeP G h (pTin N x y) N ns np no nx cn h') := by
  refine Ct.of (L := [(0, _), (1, _), (2, _)]) (by decide) (ble rfl) rfl ?_
  first | refine x_aload_n 0 dX11_tin_0 rfl rfl ?_ | refine x_aload_nN 0 dX11_tin_0 rfl rfl ?_
  refine x_get fX11_35 rfl dX11_tin_1 (by with_reducible repeat first | assumption | exact hset_s | refine hget_n (by first | assumption | exact Ne.symm (by assumption) | exact nA ok (by omega) (by omega) (by omega)) ?_) (by rfl) ?_
  first | refine x_aload_n 0 dX11_tin_4 rfl rfl ?_ | refine x_aload_nN 0 dX11_tin_4 rfl rfl ?_
  refine x_get fX11_20 rfl dX11_tin_5 (by with_reducible repeat first | assumption | exact hset_s | refine hget_n (by first | assumption | exact Ne.symm (by assumption) | exact nA ok (by omega) (by omega) (by omega)) ?_) (by rfl) ?_
  refine x_pV0 (mc1 := 0) (ms1 := 0) (As := [.ref _]) (ct_X1_note ok HH hnx HR H) vX11_81 rfl (x_recv HH.1 rfl) rfl ⟨ble rfl, ble rfl⟩ (ble rfl) dX11_tin_8 rfl ⟨by omega, by omega⟩ (fun h8 q8 => ?_)
  obtain ⟨HR8, F8⟩ := q8
  have hst8 := F8 _ _ hst (nB ok (by omega) (by omega) (by omega))
  have hm8 := F8 _ _ hm (nB ok (by omega) (by omega) (by omega))
  have H8 := H.fr F8 (fun i hi => (nB ok (by omega) (by omega) (by omega)))
  have R8 : RsW G h8 c f d := ⟨F8 _ _ R.1 (nB ok (by omega) (by omega) (by omega)), F8 _ _ R.2.1 (nB ok (by omega) (by omega) (by omega)), F8 _ _ R.2.2 (nB ok (by omega) (by omega) (by omega))⟩
  have HH8 : HiW G h8 nx cn := ⟨F8 _ _ HH.1 (nB ok (by omega) (by omega) (by omega)), F8 _ _ HH.2 (nB ok (by omega) (by omega) (by omega))⟩
  have h58 := HH8.1
  first | refine x_aload_n 0 dX11_tin_11 rfl rfl ?_ | refine x_aload_nN 0 dX11_tin_11 rfl rfl ?_
  first | refine x_aload_n 0 dX11_tin_12 rfl rfl ?_ | refine x_aload_nN 0 dX11_tin_12 rfl rfl ?_
  refine x_get fX11_10 rfl dX11_tin_13 (by with_reducible repeat first | assumption | exact hset_s | refine hget_n (by first | assumption | exact Ne.symm (by assumption) | exact nA ok (by omega) (by omega) (by omega)) ?_) (by rfl) ?_
  refine x_iload_n 1 dX11_tin_16 rfl rfl ?_
  refine x_iload_n 2 dX11_tin_17 rfl rfl ?_
  refine x_pV1 (mc1 := 0) (ms1 := 0) (As := [.int _, .int _]) (ct_sTin ok H8 R8 hm8 _ _) vX11_102 rfl (x_recv hm8 rfl) rfl ⟨ble rfl, ble rfl⟩ (ble rfl) dX11_tin_18 rfl ⟨by omega, by omega⟩ (fun h18 q18 => ?_)
  rcases hout : (pTin N x y) with c1 | (⟨w, dd, b, i⟩ | ⟨v, N2⟩)
  · rw [hout] at q18 hok
    have e18 : h18 = h8 := q18
    subst e18
    refine x_cV1 (As := [.int _]) (ct_kept_n hst8 hok) vX11_89 rfl (x_recv (by with_reducible repeat first | assumption | exact hset_s | refine hget_n (by first | assumption | exact Ne.symm (by assumption) | exact nA ok (by omega) (by omega) (by omega)) ?_) rfl) rfl ⟨ble rfl, ble rfl⟩ (ble rfl) dX11_tin_21 rfl ?_
    refine x_iret rfl dX11_tin_24 ?_
    exact ⟨rfl, HR8, F8⟩
  · rw [hout] at q18
    obtain ⟨ex, Fd⟩ := q18
    have hst9 := Fd _ _ hst8 (nB ok (by omega) (by omega) (by omega))
    have HR9 := HR8.fr Fd (fun i hi => (nB ok (by omega) (by omega) (by omega)))
    refine x_cV1 (As := [.int _]) (ct_kept_n hst9 (show (-3 : Int32) < 0 by decide)) vX11_89 rfl (x_recv (by with_reducible repeat first | assumption | exact hset_s | refine hget_n (by first | assumption | exact Ne.symm (by assumption) | exact nA ok (by omega) (by omega) (by omega)) ?_) rfl) rfl ⟨ble rfl, ble rfl⟩ (ble rfl) dX11_tin_21 rfl ?_
    refine x_iret rfl dX11_tin_24 ?_
    exact ⟨rfl, HR9, ex, F8.tr Fd (fun _ z => Or.inr z) (fun _ z => Or.inl z)⟩
  · rw [hout] at q18 hok
    obtain ⟨⟨n1, n2, n3, H9⟩, Fd⟩ := q18
    have hst9 := Fd _ _ hst8 (nB ok (by omega) (by omega) (by omega))
    have HR9 := HR8.fr Fd (fun i hi => (nB ok (by omega) (by omega) (by omega)))
    have HH9 : HiW G _ nx cn := ⟨Fd _ _ HH8.1 (nB ok (by omega) (by omega) (by omega)), Fd _ _ HH8.2 (nB ok (by omega) (by omega) (by omega))⟩
    have n56 := nA ok (show 6 < 3000 by omega) (show 5 < 3000 by omega) (by omega)
    refine x_cV1 (As := [.int _]) (ct_kept_y ok hst9 HH9 hnx hcn hok) vX11_89 rfl (x_recv (by with_reducible repeat first | assumption | exact hset_s | refine hget_n (by first | assumption | exact Ne.symm (by assumption) | exact nA ok (by omega) (by omega) (by omega)) ?_) rfl) rfl ⟨ble rfl, ble rfl⟩ (ble rfl) dX11_tin_21 rfl ?_
    refine x_iret rfl dX11_tin_24 ?_
    have F5 : Fr (fun a => a = Ad G 5) h18 (hset h18 (Ad G 5) (.inr (2, [.ref (Ad G 6), .int (nI ((nx + 1) % 9)), .int (nI (min (cn + 1) 8))]))) := Fr.rf.st rfl
    exact ⟨rfl, HR9.fr F5 (fun i hi e => nA ok (by omega) (by omega) (by omega) e), ⟨n1, n2, n3, H9.fr F5 (fun i hi e => nA ok (by omega) (by omega) (by omega) e)⟩, ⟨hset_s, hget_n n56 HH9.2⟩, (F8.tr Fd (Q := fun a => a = Ad G 5 ∨ inB G 1000 60 a ∨ inB G (100 * (nx + 1)) 60 a) (fun _ z => Or.inr (Or.inr z)) (fun _ z => Or.inr (Or.inl z))).st (Or.inl rfl)⟩
set_option maxRecDepth 100000 in
set_option maxHeartbeats 1000000 in
theorem ct_xcook {l : Launch} {G : Gl} {h : Hp} {N M : Nat → Int32} {ns np no ms mp mo c nx cn : Nat} {f d : Nat → Int32} {isv flt : Int32} (ok : Ok G) (hst : h (Ad G 0) = some (eSt G isv flt)) (H : ShW G h 1000 N ns np no) (R : RsW G h c f d) (hm : h (Ad G 1) = some (.inr (9, [.ref (Ad G 1000), .ref (Ad G 2)]))) (HH : HiW G h nx cn) (hnx : nx < 9) (hcn : cn ≤ 8) (HR : ShW G h (100 * (nx + 1)) M ms mp mo) (AP : ∀ i, i < np → PotI N i) (x y : Int32) (hok : OutOk (pCook N x y)) : Ct l G mX11_cook 6 0 0 [.ref (Ad G 0), .int x, .int y] h (fun w h' => w = some (.int (ansC (pCook N x y))) ∧ DeP G h (pCook N x y) N ns np no nx cn h') := by
  refine Ct.of (L := [(0, _), (1, _), (2, _)]) (by decide) (ble rfl) rfl ?_
  first | refine x_aload_n 0 dX11_cook_0 rfl rfl ?_ | refine x_aload_nN 0 dX11_cook_0 rfl rfl ?_
  refine x_get fX11_35 rfl dX11_cook_1 (by with_reducible repeat first | assumption | exact hset_s | refine hget_n (by first | assumption | exact Ne.symm (by assumption) | exact nA ok (by omega) (by omega) (by omega)) ?_) (by rfl) ?_
  first | refine x_aload_n 0 dX11_cook_4 rfl rfl ?_ | refine x_aload_nN 0 dX11_cook_4 rfl rfl ?_
  refine x_get fX11_20 rfl dX11_cook_5 (by with_reducible repeat first | assumption | exact hset_s | refine hget_n (by first | assumption | exact Ne.symm (by assumption) | exact nA ok (by omega) (by omega) (by omega)) ?_) (by rfl) ?_
  refine x_pV0 (mc1 := 0) (ms1 := 0) (As := [.ref _]) (ct_X1_note ok HH hnx HR H) vX11_81 rfl (x_recv HH.1 rfl) rfl ⟨ble rfl, ble rfl⟩ (ble rfl) dX11_cook_8 rfl ⟨by omega, by omega⟩ (fun h8 q8 => ?_)
  obtain ⟨HR8, F8⟩ := q8
  have hst8 := F8 _ _ hst (nB ok (by omega) (by omega) (by omega))
  have hm8 := F8 _ _ hm (nB ok (by omega) (by omega) (by omega))
  have H8 := H.fr F8 (fun i hi => (nB ok (by omega) (by omega) (by omega)))
  have R8 : RsW G h8 c f d := ⟨F8 _ _ R.1 (nB ok (by omega) (by omega) (by omega)), F8 _ _ R.2.1 (nB ok (by omega) (by omega) (by omega)), F8 _ _ R.2.2 (nB ok (by omega) (by omega) (by omega))⟩
  have HH8 : HiW G h8 nx cn := ⟨F8 _ _ HH.1 (nB ok (by omega) (by omega) (by omega)), F8 _ _ HH.2 (nB ok (by omega) (by omega) (by omega))⟩
  have h58 := HH8.1
  first | refine x_aload_n 0 dX11_cook_11 rfl rfl ?_ | refine x_aload_nN 0 dX11_cook_11 rfl rfl ?_
  first | refine x_aload_n 0 dX11_cook_12 rfl rfl ?_ | refine x_aload_nN 0 dX11_cook_12 rfl rfl ?_
  refine x_get fX11_10 rfl dX11_cook_13 (by with_reducible repeat first | assumption | exact hset_s | refine hget_n (by first | assumption | exact Ne.symm (by assumption) | exact nA ok (by omega) (by omega) (by omega)) ?_) (by rfl) ?_
  refine x_iload_n 1 dX11_cook_16 rfl rfl ?_
  refine x_iload_n 2 dX11_cook_17 rfl rfl ?_
  refine x_pV1 (mc1 := 0) (ms1 := 0) (As := [.int _, .int _]) (ct_sCook ok H8 R8 hm8 AP _ _) vX11_105 rfl (x_recv hm8 rfl) rfl ⟨ble rfl, ble rfl⟩ (ble rfl) dX11_cook_18 rfl ⟨by omega, by omega⟩ (fun h18 q18 => ?_)
  rcases hout : (pCook N x y) with c1 | (⟨w, dd, b, i⟩ | ⟨v, N2⟩)
  · rw [hout] at q18 hok
    have e18 : h18 = h8 := q18
    subst e18
    refine x_cV1 (As := [.int _]) (ct_kept_n hst8 hok) vX11_89 rfl (x_recv (by with_reducible repeat first | assumption | exact hset_s | refine hget_n (by first | assumption | exact Ne.symm (by assumption) | exact nA ok (by omega) (by omega) (by omega)) ?_) rfl) rfl ⟨ble rfl, ble rfl⟩ (ble rfl) dX11_cook_21 rfl ?_
    refine x_iret rfl dX11_cook_24 ?_
    exact ⟨rfl, HR8, F8⟩
  · rw [hout] at q18
    obtain ⟨ex, Fd⟩ := q18
    have hst9 := Fd _ _ hst8 (nB ok (by omega) (by omega) (by omega))
    have HR9 := HR8.fr Fd (fun i hi => (nB ok (by omega) (by omega) (by omega)))
    refine x_cV1 (As := [.int _]) (ct_kept_n hst9 (show (-3 : Int32) < 0 by decide)) vX11_89 rfl (x_recv (by with_reducible repeat first | assumption | exact hset_s | refine hget_n (by first | assumption | exact Ne.symm (by assumption) | exact nA ok (by omega) (by omega) (by omega)) ?_) rfl) rfl ⟨ble rfl, ble rfl⟩ (ble rfl) dX11_cook_21 rfl ?_
    refine x_iret rfl dX11_cook_24 ?_
    exact ⟨rfl, HR9, ex, F8.tr Fd (fun _ z => Or.inr z) (fun _ z => Or.inl z)⟩
  · rw [hout] at q18 hok
    obtain ⟨⟨n1, n2, n3, H9⟩, Fd⟩ := q18
    have hst9 := Fd _ _ hst8 (nB ok (by omega) (by omega) (by omega))
    have HR9 := HR8.fr Fd (fun i hi => (nB ok (by omega) (by omega) (by omega)))
    have HH9 : HiW G _ nx cn := ⟨Fd _ _ HH8.1 (nB ok (by omega) (by omega) (by omega)), Fd _ _ HH8.2 (nB ok (by omega) (by omega) (by omega))⟩
    have n56 := nA ok (show 6 < 3000 by omega) (show 5 < 3000 by omega) (by omega)
    refine x_cV1 (As := [.int _]) (ct_kept_y ok hst9 HH9 hnx hcn hok) vX11_89 rfl (x_recv (by with_reducible repeat first | assumption | exact hset_s | refine hget_n (by first | assumption | exact Ne.symm (by assumption) | exact nA ok (by omega) (by omega) (by omega)) ?_) rfl) rfl ⟨ble rfl, ble rfl⟩ (ble rfl) dX11_cook_21 rfl ?_
    refine x_iret rfl dX11_cook_24 ?_
    have F5 : Fr (fun a => a = Ad G 5) h18 (hset h18 (Ad G 5) (.inr (2, [.ref (Ad G 6), .int (nI ((nx + 1) % 9)), .int (nI (min (cn + 1) 8))]))) := Fr.rf.st rfl
    exact ⟨rfl, HR9.fr F5 (fun i hi e => nA ok (by omega) (by omega) (by omega) e), ⟨n1, n2, n3, H9.fr F5 (fun i hi e => nA ok (by omega) (by omega) (by omega) e)⟩, ⟨hset_s, hget_n n56 HH9.2⟩, (F8.tr Fd (Q := fun a => a = Ad G 5 ∨ inB G 1000 60 a ∨ inB G (100 * (nx + 1)) 60 a) (fun _ z => Or.inr (Or.inr z)) (fun _ z => Or.inr (Or.inl z))).st (Or.inl rfl)⟩
set_option maxRecDepth 100000 in
set_option maxHeartbeats 1000000 in
theorem ct_xbaker {l : Launch} {G : Gl} {h : Hp} {N M : Nat → Int32} {ns np no ms mp mo c nx cn : Nat} {f d : Nat → Int32} {isv flt : Int32} (ok : Ok G) (hst : h (Ad G 0) = some (eSt G isv flt)) (H : ShW G h 1000 N ns np no) (R : RsW G h c f d) (hm : h (Ad G 1) = some (.inr (9, [.ref (Ad G 1000), .ref (Ad G 2)]))) (HH : HiW G h nx cn) (hnx : nx < 9) (hcn : cn ≤ 8) (HR : ShW G h (100 * (nx + 1)) M ms mp mo) (x y z : Int32) (hok : OutOk (pBaker N x y z)) : Ct l G mX11_baker 6 0 0 [.ref (Ad G 0), .int x, .int y, .int z] h (fun w h' => w = some (.int (ansC (pBaker N x y z))) ∧ DeP G h (pBaker N x y z) N ns np no nx cn h') := by
  refine Ct.of (L := [(0, _), (1, _), (2, _), (3, _)]) (by decide) (ble rfl) rfl ?_
  first | refine x_aload_n 0 dX11_baker_0 rfl rfl ?_ | refine x_aload_nN 0 dX11_baker_0 rfl rfl ?_
  refine x_get fX11_35 rfl dX11_baker_1 (by with_reducible repeat first | assumption | exact hset_s | refine hget_n (by first | assumption | exact Ne.symm (by assumption) | exact nA ok (by omega) (by omega) (by omega)) ?_) (by rfl) ?_
  first | refine x_aload_n 0 dX11_baker_4 rfl rfl ?_ | refine x_aload_nN 0 dX11_baker_4 rfl rfl ?_
  refine x_get fX11_20 rfl dX11_baker_5 (by with_reducible repeat first | assumption | exact hset_s | refine hget_n (by first | assumption | exact Ne.symm (by assumption) | exact nA ok (by omega) (by omega) (by omega)) ?_) (by rfl) ?_
  refine x_pV0 (mc1 := 0) (ms1 := 0) (As := [.ref _]) (ct_X1_note ok HH hnx HR H) vX11_81 rfl (x_recv HH.1 rfl) rfl ⟨ble rfl, ble rfl⟩ (ble rfl) dX11_baker_8 rfl ⟨by omega, by omega⟩ (fun h8 q8 => ?_)
  obtain ⟨HR8, F8⟩ := q8
  have hst8 := F8 _ _ hst (nB ok (by omega) (by omega) (by omega))
  have hm8 := F8 _ _ hm (nB ok (by omega) (by omega) (by omega))
  have H8 := H.fr F8 (fun i hi => (nB ok (by omega) (by omega) (by omega)))
  have R8 : RsW G h8 c f d := ⟨F8 _ _ R.1 (nB ok (by omega) (by omega) (by omega)), F8 _ _ R.2.1 (nB ok (by omega) (by omega) (by omega)), F8 _ _ R.2.2 (nB ok (by omega) (by omega) (by omega))⟩
  have HH8 : HiW G h8 nx cn := ⟨F8 _ _ HH.1 (nB ok (by omega) (by omega) (by omega)), F8 _ _ HH.2 (nB ok (by omega) (by omega) (by omega))⟩
  have h58 := HH8.1
  first | refine x_aload_n 0 dX11_baker_11 rfl rfl ?_ | refine x_aload_nN 0 dX11_baker_11 rfl rfl ?_
  first | refine x_aload_n 0 dX11_baker_12 rfl rfl ?_ | refine x_aload_nN 0 dX11_baker_12 rfl rfl ?_
  refine x_get fX11_10 rfl dX11_baker_13 (by with_reducible repeat first | assumption | exact hset_s | refine hget_n (by first | assumption | exact Ne.symm (by assumption) | exact nA ok (by omega) (by omega) (by omega)) ?_) (by rfl) ?_
  refine x_iload_n 1 dX11_baker_16 rfl rfl ?_
  refine x_iload_n 2 dX11_baker_17 rfl rfl ?_
  refine x_iload_n 3 dX11_baker_18 rfl rfl ?_
  refine x_pV1 (mc1 := 0) (ms1 := 0) (As := [.int _, .int _, .int _]) (ct_sBaker ok H8 R8 hm8 _ _ _) vX11_108 rfl (x_recv hm8 rfl) rfl ⟨ble rfl, ble rfl⟩ (ble rfl) dX11_baker_19 rfl ⟨by omega, by omega⟩ (fun h19 q19 => ?_)
  rcases hout : (pBaker N x y z) with c1 | (⟨w, dd, b, i⟩ | ⟨v, N2⟩)
  · rw [hout] at q19 hok
    have e18 : h19 = h8 := q19
    subst e18
    refine x_cV1 (As := [.int _]) (ct_kept_n hst8 hok) vX11_89 rfl (x_recv (by with_reducible repeat first | assumption | exact hset_s | refine hget_n (by first | assumption | exact Ne.symm (by assumption) | exact nA ok (by omega) (by omega) (by omega)) ?_) rfl) rfl ⟨ble rfl, ble rfl⟩ (ble rfl) dX11_baker_22 rfl ?_
    refine x_iret rfl dX11_baker_25 ?_
    exact ⟨rfl, HR8, F8⟩
  · rw [hout] at q19
    obtain ⟨ex, Fd⟩ := q19
    have hst9 := Fd _ _ hst8 (nB ok (by omega) (by omega) (by omega))
    have HR9 := HR8.fr Fd (fun i hi => (nB ok (by omega) (by omega) (by omega)))
    refine x_cV1 (As := [.int _]) (ct_kept_n hst9 (show (-3 : Int32) < 0 by decide)) vX11_89 rfl (x_recv (by with_reducible repeat first | assumption | exact hset_s | refine hget_n (by first | assumption | exact Ne.symm (by assumption) | exact nA ok (by omega) (by omega) (by omega)) ?_) rfl) rfl ⟨ble rfl, ble rfl⟩ (ble rfl) dX11_baker_22 rfl ?_
    refine x_iret rfl dX11_baker_25 ?_
    exact ⟨rfl, HR9, ex, F8.tr Fd (fun _ z => Or.inr z) (fun _ z => Or.inl z)⟩
  · rw [hout] at q19 hok
    obtain ⟨⟨n1, n2, n3, H9⟩, Fd⟩ := q19
    have hst9 := Fd _ _ hst8 (nB ok (by omega) (by omega) (by omega))
    have HR9 := HR8.fr Fd (fun i hi => (nB ok (by omega) (by omega) (by omega)))
    have HH9 : HiW G _ nx cn := ⟨Fd _ _ HH8.1 (nB ok (by omega) (by omega) (by omega)), Fd _ _ HH8.2 (nB ok (by omega) (by omega) (by omega))⟩
    have n56 := nA ok (show 6 < 3000 by omega) (show 5 < 3000 by omega) (by omega)
    refine x_cV1 (As := [.int _]) (ct_kept_y ok hst9 HH9 hnx hcn hok) vX11_89 rfl (x_recv (by with_reducible repeat first | assumption | exact hset_s | refine hget_n (by first | assumption | exact Ne.symm (by assumption) | exact nA ok (by omega) (by omega) (by omega)) ?_) rfl) rfl ⟨ble rfl, ble rfl⟩ (ble rfl) dX11_baker_22 rfl ?_
    refine x_iret rfl dX11_baker_25 ?_
    have F5 : Fr (fun a => a = Ad G 5) h19 (hset h19 (Ad G 5) (.inr (2, [.ref (Ad G 6), .int (nI ((nx + 1) % 9)), .int (nI (min (cn + 1) 8))]))) := Fr.rf.st rfl
    exact ⟨rfl, HR9.fr F5 (fun i hi e => nA ok (by omega) (by omega) (by omega) e), ⟨n1, n2, n3, H9.fr F5 (fun i hi e => nA ok (by omega) (by omega) (by omega) e)⟩, ⟨hset_s, hget_n n56 HH9.2⟩, (F8.tr Fd (Q := fun a => a = Ad G 5 ∨ inB G 1000 60 a ∨ inB G (100 * (nx + 1)) 60 a) (fun _ z => Or.inr (Or.inr z)) (fun _ z => Or.inr (Or.inl z))).st (Or.inl rfl)⟩
set_option maxRecDepth 100000 in
set_option maxHeartbeats 1000000 in
theorem ct_xsell {l : Launch} {G : Gl} {h : Hp} {N M : Nat → Int32} {ns np no ms mp mo c nx cn : Nat} {f d : Nat → Int32} {isv flt : Int32} (ok : Ok G) (hst : h (Ad G 0) = some (eSt G isv flt)) (H : ShW G h 1000 N ns np no) (R : RsW G h c f d) (hm : h (Ad G 1) = some (.inr (9, [.ref (Ad G 1000), .ref (Ad G 2)]))) (HH : HiW G h nx cn) (hnx : nx < 9) (hcn : cn ≤ 8) (HR : ShW G h (100 * (nx + 1)) M ms mp mo) (x y : Int32) (hok : OutOk (pSell N x y)) : Ct l G mX11_sell 6 0 0 [.ref (Ad G 0), .int x, .int y] h (fun w h' => w = some (.int (ansC (pSell N x y))) ∧ DeP G h (pSell N x y) N ns np no nx cn h') := by
  refine Ct.of (L := [(0, _), (1, _), (2, _)]) (by decide) (ble rfl) rfl ?_
  first | refine x_aload_n 0 dX11_sell_0 rfl rfl ?_ | refine x_aload_nN 0 dX11_sell_0 rfl rfl ?_
  refine x_get fX11_35 rfl dX11_sell_1 (by with_reducible repeat first | assumption | exact hset_s | refine hget_n (by first | assumption | exact Ne.symm (by assumption) | exact nA ok (by omega) (by omega) (by omega)) ?_) (by rfl) ?_
  first | refine x_aload_n 0 dX11_sell_4 rfl rfl ?_ | refine x_aload_nN 0 dX11_sell_4 rfl rfl ?_
  refine x_get fX11_20 rfl dX11_sell_5 (by with_reducible repeat first | assumption | exact hset_s | refine hget_n (by first | assumption | exact Ne.symm (by assumption) | exact nA ok (by omega) (by omega) (by omega)) ?_) (by rfl) ?_
  refine x_pV0 (mc1 := 0) (ms1 := 0) (As := [.ref _]) (ct_X1_note ok HH hnx HR H) vX11_81 rfl (x_recv HH.1 rfl) rfl ⟨ble rfl, ble rfl⟩ (ble rfl) dX11_sell_8 rfl ⟨by omega, by omega⟩ (fun h8 q8 => ?_)
  obtain ⟨HR8, F8⟩ := q8
  have hst8 := F8 _ _ hst (nB ok (by omega) (by omega) (by omega))
  have hm8 := F8 _ _ hm (nB ok (by omega) (by omega) (by omega))
  have H8 := H.fr F8 (fun i hi => (nB ok (by omega) (by omega) (by omega)))
  have R8 : RsW G h8 c f d := ⟨F8 _ _ R.1 (nB ok (by omega) (by omega) (by omega)), F8 _ _ R.2.1 (nB ok (by omega) (by omega) (by omega)), F8 _ _ R.2.2 (nB ok (by omega) (by omega) (by omega))⟩
  have HH8 : HiW G h8 nx cn := ⟨F8 _ _ HH.1 (nB ok (by omega) (by omega) (by omega)), F8 _ _ HH.2 (nB ok (by omega) (by omega) (by omega))⟩
  have h58 := HH8.1
  first | refine x_aload_n 0 dX11_sell_11 rfl rfl ?_ | refine x_aload_nN 0 dX11_sell_11 rfl rfl ?_
  first | refine x_aload_n 0 dX11_sell_12 rfl rfl ?_ | refine x_aload_nN 0 dX11_sell_12 rfl rfl ?_
  refine x_get fX11_10 rfl dX11_sell_13 (by with_reducible repeat first | assumption | exact hset_s | refine hget_n (by first | assumption | exact Ne.symm (by assumption) | exact nA ok (by omega) (by omega) (by omega)) ?_) (by rfl) ?_
  refine x_iload_n 1 dX11_sell_16 rfl rfl ?_
  refine x_iload_n 2 dX11_sell_17 rfl rfl ?_
  refine x_pV1 (mc1 := 0) (ms1 := 0) (As := [.int _, .int _]) (ct_sSell ok H8 R8 hm8 _ _) vX11_112 rfl (x_recv hm8 rfl) rfl ⟨ble rfl, ble rfl⟩ (ble rfl) dX11_sell_18 rfl ⟨by omega, by omega⟩ (fun h18 q18 => ?_)
  rcases hout : (pSell N x y) with c1 | (⟨w, dd, b, i⟩ | ⟨v, N2⟩)
  · rw [hout] at q18 hok
    have e18 : h18 = h8 := q18
    subst e18
    refine x_cV1 (As := [.int _]) (ct_kept_n hst8 hok) vX11_89 rfl (x_recv (by with_reducible repeat first | assumption | exact hset_s | refine hget_n (by first | assumption | exact Ne.symm (by assumption) | exact nA ok (by omega) (by omega) (by omega)) ?_) rfl) rfl ⟨ble rfl, ble rfl⟩ (ble rfl) dX11_sell_21 rfl ?_
    refine x_iret rfl dX11_sell_24 ?_
    exact ⟨rfl, HR8, F8⟩
  · rw [hout] at q18
    obtain ⟨ex, Fd⟩ := q18
    have hst9 := Fd _ _ hst8 (nB ok (by omega) (by omega) (by omega))
    have HR9 := HR8.fr Fd (fun i hi => (nB ok (by omega) (by omega) (by omega)))
    refine x_cV1 (As := [.int _]) (ct_kept_n hst9 (show (-3 : Int32) < 0 by decide)) vX11_89 rfl (x_recv (by with_reducible repeat first | assumption | exact hset_s | refine hget_n (by first | assumption | exact Ne.symm (by assumption) | exact nA ok (by omega) (by omega) (by omega)) ?_) rfl) rfl ⟨ble rfl, ble rfl⟩ (ble rfl) dX11_sell_21 rfl ?_
    refine x_iret rfl dX11_sell_24 ?_
    exact ⟨rfl, HR9, ex, F8.tr Fd (fun _ z => Or.inr z) (fun _ z => Or.inl z)⟩
  · rw [hout] at q18 hok
    obtain ⟨⟨n1, n2, n3, H9⟩, Fd⟩ := q18
    have hst9 := Fd _ _ hst8 (nB ok (by omega) (by omega) (by omega))
    have HR9 := HR8.fr Fd (fun i hi => (nB ok (by omega) (by omega) (by omega)))
    have HH9 : HiW G _ nx cn := ⟨Fd _ _ HH8.1 (nB ok (by omega) (by omega) (by omega)), Fd _ _ HH8.2 (nB ok (by omega) (by omega) (by omega))⟩
    have n56 := nA ok (show 6 < 3000 by omega) (show 5 < 3000 by omega) (by omega)
    refine x_cV1 (As := [.int _]) (ct_kept_y ok hst9 HH9 hnx hcn hok) vX11_89 rfl (x_recv (by with_reducible repeat first | assumption | exact hset_s | refine hget_n (by first | assumption | exact Ne.symm (by assumption) | exact nA ok (by omega) (by omega) (by omega)) ?_) rfl) rfl ⟨ble rfl, ble rfl⟩ (ble rfl) dX11_sell_21 rfl ?_
    refine x_iret rfl dX11_sell_24 ?_
    have F5 : Fr (fun a => a = Ad G 5) h18 (hset h18 (Ad G 5) (.inr (2, [.ref (Ad G 6), .int (nI ((nx + 1) % 9)), .int (nI (min (cn + 1) 8))]))) := Fr.rf.st rfl
    exact ⟨rfl, HR9.fr F5 (fun i hi e => nA ok (by omega) (by omega) (by omega) e), ⟨n1, n2, n3, H9.fr F5 (fun i hi e => nA ok (by omega) (by omega) (by omega) e)⟩, ⟨hset_s, hget_n n56 HH9.2⟩, (F8.tr Fd (Q := fun a => a = Ad G 5 ∨ inB G 1000 60 a ∨ inB G (100 * (nx + 1)) 60 a) (fun _ z => Or.inr (Or.inr z)) (fun _ z => Or.inr (Or.inl z))).st (Or.inl rfl)⟩
