/-! ===== the calls that change neither side ===== -/
theorem vi {x : Int32} : vI (.int x) := ⟨x, rfl⟩
theorem RI.s {N : Nat → Int32} {ns np no : Nat} (R : RI N ns np no) {x : Int32} (hx : 0 ≤ x ∧ x < N 2) : ∃ i, i < ns ∧ x = nI i := by
  obtain ⟨a2, a3, a4, b2, b3, b4, -⟩ := R.1
  exact rg_of (by omega) (by rw [← a2]; exact hx)
theorem RI.p {N : Nat → Int32} {ns np no : Nat} (R : RI N ns np no) {x : Int32} (hx : 0 ≤ x ∧ x < N 3) : ∃ i, i < np ∧ x = nI i := by
  obtain ⟨a2, a3, a4, b2, b3, b4, -⟩ := R.1
  exact rg_of (by omega) (by rw [← a3]; exact hx)
theorem RI.o {N : Nat → Int32} {ns np no : Nat} (R : RI N ns np no) {x : Int32} (hx : 0 ≤ x ∧ x < N 4) : ∃ i, i < no ∧ x = nI i := by
  obtain ⟨a2, a3, a4, b2, b3, b4, -⟩ := R.1
  exact rg_of (by omega) (by rw [← a4]; exact hx)
theorem RI.P {N : Nat → Int32} {ns np no : Nat} (R : RI N ns np no) : ∀ i, i < np → PotI N i := R.1.2.2.2.2.2.2.1
theorem RI.np {N : Nat → Int32} {ns np no : Nat} (R : RI N ns np no) : np ≤ 16 := R.1.2.2.2.2.1
theorem RI.no {N : Nat → Int32} {ns np no : Nat} (R : RI N ns np no) : no ≤ 8 := R.1.2.2.2.2.2.1
/-- an index that is one of a few, or none -/
theorem ix_or (y : Int32) (n : Nat) (hn : n < 2 ^ 30) : (y.toInt < 0 ∨ (n : Int) < y.toInt) ∨ ∃ w, w ≤ n ∧ y = nI w := by
  by_cases h : y.toInt < 0 ∨ (n : Int) < y.toInt
  · exact Or.inl h
  · refine Or.inr ?_
    obtain ⟨w, hw, rfl⟩ := nI_of (x := y) (by rw [Int32.lt_iff_toInt_lt, Int32.toInt_zero]; omega)
    have e := nI_toInt hw
    exact ⟨w, by omega, rfl⟩
section PAIRS
variable {l : Launch} {G : Gl}
set_option maxRecDepth 100000 in
theorem pr_sound (ok : Ok G) (x : Int32) : Pair l G mX11_sound mX12_sound [.int x] vI := Pair.rd (fun h N ns np no isv flt hst H R => by
  by_cases hx : 0 ≤ x ∧ x < N 3
  · obtain ⟨i, hi, rfl⟩ := R.p hx
    exact ⟨_, _, _, by decide, by decide, vi, ct_xsound_in ok hst H hi, fun _ _ _ _ _ _ _ _ _ _ _ _ _ => ct_sound_in ok R.1 hi⟩
  · exact ⟨_, _, _, by decide, by decide, vi, ct_xsound_out ok hst H hx, fun _ _ _ _ _ _ _ _ _ _ _ _ _ => ct_sound_out ok R.1 x hx⟩)
set_option maxRecDepth 100000 in
theorem pr_mealsTo (ok : Ok G) (x : Int32) : Pair l G mX11_mealsTo mX12_mealsTo [.int x] vI := Pair.rd (fun h N ns np no isv flt hst H R => by
  by_cases hx : 0 ≤ x ∧ x < N 3
  · obtain ⟨i, hi, rfl⟩ := R.p hx
    exact ⟨_, _, _, by decide, by decide, vi, ct_xmealsTo_in ok hst H hi, fun _ _ _ _ _ _ _ _ _ _ _ _ _ => ct_mealsTo_in ok R.1 hi⟩
  · exact ⟨_, _, _, by decide, by decide, vi, ct_xmealsTo_out ok hst H hx, fun _ _ _ _ _ _ _ _ _ _ _ _ _ => ct_mealsTo_out ok R.1 x hx⟩)
set_option maxRecDepth 100000 in
theorem pr_soundAgain (ok : Ok G) (x : Int32) : Pair l G mX11_soundAgain mX12_soundAgain [.int x] vI := Pair.rd (fun h N ns np no isv flt hst H R => by
  by_cases hx : 0 ≤ x ∧ x < N 3
  · obtain ⟨i, hi, rfl⟩ := R.p hx
    obtain ⟨th, eth, hn9⟩ := thk_e (R.P i hi)
    obtain ⟨t, et, t9⟩ := (R.P i hi).2.2.2.1
    exact ⟨_, _, _, by decide, by decide, vi, ct_xsoundAgain_in ok hst H hi et t9 hn9 eth, fun _ _ _ _ _ _ _ _ _ _ _ _ _ => ct_soundAgain_in ok R.1 hi⟩
  · exact ⟨_, _, _, by decide, by decide, vi, ct_xsoundAgain_out ok hst H hx, fun _ _ _ _ _ _ _ _ _ _ _ _ _ => ct_soundAgain_out ok R.1 x hx⟩)
set_option maxRecDepth 100000 in
theorem pr_goodFor (ok : Ok G) (x : Int32) : Pair l G mX11_goodFor mX12_goodFor [.int x] vI := Pair.rd (fun h N ns np no isv flt hst H R => by
  by_cases hx : 0 ≤ x ∧ x < N 4
  · obtain ⟨i, hi, rfl⟩ := R.o hx
    exact ⟨_, _, _, by decide, by decide, vi, (ct_xgoodFor_in ok hst H hi).cg (by rw [goodFor_e R.np i]) rfl, fun _ _ _ _ _ _ _ _ _ _ _ _ _ => ct_goodFor_in ok R.1 hi⟩
  · exact ⟨_, _, _, by decide, by decide, vi, ct_xgoodFor_out ok hst H hx, fun _ _ _ _ _ _ _ _ _ _ _ _ _ => ct_goodFor_out ok R.1 x hx⟩)
set_option maxRecDepth 100000 in
theorem pr_barsFor (ok : Ok G) (x y : Int32) : Pair l G mX11_barsFor mX12_barsFor [.int x, .int y] vI := Pair.rd (fun h N ns np no isv flt hst H R => by
  by_cases hx : 0 ≤ x ∧ x < N 3
  · obtain ⟨i, hi, rfl⟩ := R.p hx
    exact ⟨_, _, _, by decide, by decide, vi, ct_xbarsFor_in ok hst H hi y, fun _ _ _ _ _ _ _ _ _ _ _ _ _ => ct_barsFor_in ok R.1 hi y⟩
  · exact ⟨_, _, _, by decide, by decide, vi, ct_xbarsFor_out ok hst H hx y, fun _ _ _ _ _ _ _ _ _ _ _ _ _ => ct_barsFor_out ok R.1 x hx y⟩)
set_option maxRecDepth 100000 in
theorem pr_blowsTo (ok : Ok G) (x y : Int32) : Pair l G mX11_blowsTo mX12_blowsTo [.int x, .int y] vI := Pair.rd (fun h N ns np no isv flt hst H R => by
  by_cases hx : 0 ≤ x ∧ x < N 3
  · obtain ⟨i, hi, rfl⟩ := R.p hx
    exact ⟨_, _, _, by decide, by decide, vi, ct_xblowsTo_in ok hst H hi y, fun _ _ _ _ _ _ _ _ _ _ _ _ _ => ct_blowsTo_in ok R.1 hi y⟩
  · exact ⟨_, _, _, by decide, by decide, vi, ct_xblowsTo_out ok hst H hx y, fun _ _ _ _ _ _ _ _ _ _ _ _ _ => ct_blowsTo_out ok R.1 x hx y⟩)
set_option maxRecDepth 100000 in
theorem pr_wouldSound (ok : Ok G) (x y z : Int32) : Pair l G mX11_wouldSound mX12_wouldSound [.int x, .int y, .int z] vI := Pair.rd (fun h N ns np no isv flt hst H R => by
  by_cases hx : 0 ≤ x ∧ x < N 3
  · obtain ⟨i, hi, rfl⟩ := R.p hx
    exact ⟨_, _, _, by decide, by decide, vi, ct_xwouldSound_in ok hst H hi y z, fun _ _ _ _ _ _ _ _ _ _ _ _ _ => ct_wouldSound_in ok R.1 hi y z⟩
  · exact ⟨_, _, _, by decide, by decide, vi, ct_xwouldSound_out ok hst H hx y z, fun _ _ _ _ _ _ _ _ _ _ _ _ _ => ct_wouldSound_out ok R.1 x hx y z⟩)
set_option maxRecDepth 100000 in
theorem pr_sheetOf (ok : Ok G) (x y : Int32) : Pair l G mX11_sheetOf mX12_sheetOf [.int x, .int y] vI := Pair.rd (fun h N ns np no isv flt hst H R => by
  by_cases hx : 0 ≤ x ∧ x < N 2
  · obtain ⟨i, hi, rfl⟩ := R.s hx
    rcases ix_or y 3 (by omega) with hy | ⟨w, hw, rfl⟩
    · exact ⟨_, _, _, by decide, by decide, vi, ct_xsheetOf_in ok hst H hi y, fun _ _ _ _ _ _ _ _ _ _ _ _ _ => ct_sheetOf_n ok R.1 hi y (by have t0 : Int32.toInt 0 = 0 := rfl; have t3 : Int32.toInt 3 = 3 := rfl; rw [inI_0, Int32.lt_iff_toInt_lt, Int32.lt_iff_toInt_lt]; omega)⟩
    · exact ⟨_, _, _, by decide, by decide, vi, ct_xsheetOf_in ok hst H hi (nI w), fun _ _ _ _ _ _ _ _ _ _ _ _ _ => ct_sheetOf_y ok R.1 hi hw⟩
  · exact ⟨_, _, _, by decide, by decide, vi, ct_xsheetOf_out ok hst H hx y, fun _ _ _ _ _ _ _ _ _ _ _ _ _ => ct_sheetOf_out ok R.1 x y hx⟩)
set_option maxRecDepth 100000 in
theorem pr_orderOf (ok : Ok G) (x y : Int32) : Pair l G mX11_orderOf mX12_orderOf [.int x, .int y] vI := Pair.rd (fun h N ns np no isv flt hst H R => by
  by_cases hx : 0 ≤ x ∧ x < N 4
  · obtain ⟨i, hi, rfl⟩ := R.o hx
    rcases ix_or y 4 (by omega) with hy | ⟨w, hw, rfl⟩
    · exact ⟨_, _, _, by decide, by decide, vi, ct_xorderOf_in ok hst H hi y, fun _ _ _ _ _ _ _ _ _ _ _ _ _ => ct_orderOf_n ok R.1 hi y (by have t0 : Int32.toInt 0 = 0 := rfl; have t3 : Int32.toInt 4 = 4 := rfl; rw [inI_0, Int32.lt_iff_toInt_lt, Int32.lt_iff_toInt_lt]; omega)⟩
    · exact ⟨_, _, _, by decide, by decide, vi, ct_xorderOf_in ok hst H hi (nI w), fun _ _ _ _ _ _ _ _ _ _ _ _ _ => ct_orderOf_y ok R.1 hi hw⟩
  · exact ⟨_, _, _, by decide, by decide, vi, ct_xorderOf_out ok hst H hx y, fun _ _ _ _ _ _ _ _ _ _ _ _ _ => ct_orderOf_out ok R.1 x y hx⟩)
set_option maxRecDepth 100000 in
theorem pr_potOf (ok : Ok G) (x y : Int32) : Pair l G mX11_potOf mX12_potOf [.int x, .int y] vI := Pair.rd (fun h N ns np no isv flt hst H R => by
  by_cases hx : 0 ≤ x ∧ x < N 3
  · obtain ⟨i, hi, rfl⟩ := R.p hx
    rcases ix_or y 9 (by omega) with hy | ⟨w, hw, rfl⟩
    · exact ⟨_, _, _, by decide, by decide, vi, ct_xpotOf_in ok hst H hi y, fun _ _ _ _ _ _ _ _ _ _ _ _ _ => ct_potOf_n ok R.1 hi y hy⟩
    · rcases (show w = 0 ∨ w = 1 ∨ w = 2 ∨ w = 3 ∨ w = 4 ∨ w = 5 ∨ w = 6 ∨ w = 7 ∨ w = 8 ∨ w = 9 by omega) with rfl | rfl | rfl | rfl | rfl | rfl | rfl | rfl | rfl | rfl
      · exact ⟨_, _, _, by decide, by decide, vi, ct_xpotOf_in ok hst H hi (nI 0), fun _ _ _ _ _ _ _ _ _ _ _ _ _ => ct_potOf_0 ok R.1 hi⟩
      · exact ⟨_, _, _, by decide, by decide, vi, ct_xpotOf_in ok hst H hi (nI 1), fun _ _ _ _ _ _ _ _ _ _ _ _ _ => ct_potOf_1 ok R.1 hi⟩
      · exact ⟨_, _, _, by decide, by decide, vi, ct_xpotOf_in ok hst H hi (nI 2), fun _ _ _ _ _ _ _ _ _ _ _ _ _ => ct_potOf_2 ok R.1 hi⟩
      · exact ⟨_, _, _, by decide, by decide, vi, ct_xpotOf_in ok hst H hi (nI 3), fun _ _ _ _ _ _ _ _ _ _ _ _ _ => ct_potOf_3 ok R.1 hi⟩
      · exact ⟨_, _, _, by decide, by decide, vi, ct_xpotOf_in ok hst H hi (nI 4), fun _ _ _ _ _ _ _ _ _ _ _ _ _ => ct_potOf_4 ok R.1 hi⟩
      · exact ⟨_, _, _, by decide, by decide, vi, ct_xpotOf_in ok hst H hi (nI 5), fun _ _ _ _ _ _ _ _ _ _ _ _ _ => ct_potOf_5 ok R.1 hi⟩
      · exact ⟨_, _, _, by decide, by decide, vi, ct_xpotOf_in ok hst H hi (nI 6), fun _ _ _ _ _ _ _ _ _ _ _ _ _ => ct_potOf_6 ok R.1 hi⟩
      · exact ⟨_, _, _, by decide, by decide, vi, ct_xpotOf_in ok hst H hi (nI 7), fun _ _ _ _ _ _ _ _ _ _ _ _ _ => ct_potOf_7 ok R.1 hi⟩
      · exact ⟨_, _, _, by decide, by decide, vi, ct_xpotOf_in ok hst H hi (nI 8), fun _ _ _ _ _ _ _ _ _ _ _ _ _ => ct_potOf_8 ok R.1 hi⟩
      · exact ⟨_, _, _, by decide, by decide, vi, ct_xpotOf_in ok hst H hi (nI 9), fun _ _ _ _ _ _ _ _ _ _ _ _ _ => ct_potOf_9 ok R.1 hi⟩
  · exact ⟨_, _, _, by decide, by decide, vi, ct_xpotOf_out ok hst H hx y, fun _ _ _ _ _ _ _ _ _ _ _ _ _ => ct_potOf_out ok R.1 x y hx⟩)
set_option maxRecDepth 100000 in
theorem pr_isAlike (ok : Ok G) (x y : Int32) : Pair l G mX11_isAlike mX12_isAlike [.int x, .int y] vI := Pair.rd (fun h N ns np no isv flt hst H R => by
  by_cases hx : 0 ≤ x ∧ x < N 3
  · obtain ⟨i, hi, rfl⟩ := R.p hx
    by_cases hy : 0 ≤ y ∧ y < N 3
    · obtain ⟨j, hj, rfl⟩ := R.p hy
      exact ⟨_, _, _, by decide, by decide, vi, ct_xisAlike_ii ok hst H hi hj, fun _ _ _ _ _ _ _ _ _ _ _ _ _ => ct_isAlike_ii ok R.1 hi hj⟩
    · exact ⟨_, _, _, by decide, by decide, vi, ct_xisAlike_io ok hst H hi hy, fun _ _ _ _ _ _ _ _ _ _ _ _ _ => ct_isAlike_io ok R.1 hi y hy⟩
  · by_cases hy : 0 ≤ y ∧ y < N 3
    · obtain ⟨j, hj, rfl⟩ := R.p hy
      exact ⟨_, _, _, by decide, by decide, vi, ct_xisAlike_oi ok hst H hx hj, fun _ _ _ _ _ _ _ _ _ _ _ _ _ => ct_isAlike_o ok R.1 x _ hx⟩
    · exact ⟨_, _, _, by decide, by decide, vi, ct_xisAlike_oo ok hst H hx hy, fun _ _ _ _ _ _ _ _ _ _ _ _ _ => ct_isAlike_o ok R.1 x y hx⟩)
set_option maxRecDepth 100000 in
theorem pr_fits (ok : Ok G) (x y : Int32) : Pair l G mX11_fits mX12_fits [.int x, .int y] vI := Pair.rd (fun h N ns np no isv flt hst H R => by
  by_cases hx : 0 ≤ x ∧ x < N 3
  · obtain ⟨i, hi, rfl⟩ := R.p hx
    by_cases hy : 0 ≤ y ∧ y < N 4
    · obtain ⟨j, hj, rfl⟩ := R.o hy
      exact ⟨_, _, _, by decide, by decide, vi, ct_xfits_ii ok hst H hi hj, fun _ _ _ _ _ _ _ _ _ _ _ _ _ => ct_fits_ii ok R.1 hi hj⟩
    · exact ⟨_, _, _, by decide, by decide, vi, ct_xfits_io ok hst H hi hy, fun _ _ _ _ _ _ _ _ _ _ _ _ _ => ct_fits_io ok R.1 hi y hy⟩
  · by_cases hy : 0 ≤ y ∧ y < N 4
    · obtain ⟨j, hj, rfl⟩ := R.o hy
      exact ⟨_, _, _, by decide, by decide, vi, ct_xfits_oi ok hst H hx hj, fun _ _ _ _ _ _ _ _ _ _ _ _ _ => ct_fits_o ok R.1 x _ hx⟩
    · exact ⟨_, _, _, by decide, by decide, vi, ct_xfits_oo ok hst H hx hy, fun _ _ _ _ _ _ _ _ _ _ _ _ _ => ct_fits_o ok R.1 x y hx⟩)
set_option maxRecDepth 100000 in
theorem pr_worth (ok : Ok G) : Pair l G mX11_worth mX12_worth [] vI := Pair.rd (fun h N ns np no isv flt hst H R => by
  obtain ⟨a2, a3, a4, b2, b3, b4, AP, AO⟩ := R.1
  obtain ⟨A, R1, R2, R3, R4, R5, R6, RG, RU⟩ := id R
  exact ⟨_, _, _, by decide, by decide, vi, (ct_xworth ok hst H).cg (by rw [(worth_e R.np no).2]) rfl, fun _ _ _ _ _ _ _ _ _ _ _ _ _ => ct_X12_worth ok R.1⟩)
set_option maxRecDepth 100000 in
theorem pr_copper (ok : Ok G) : Pair l G mX11_copper mX12_copper [] vI := Pair.rd (fun h N ns np no isv flt hst H R => by
  obtain ⟨a2, a3, a4, b2, b3, b4, AP, AO⟩ := R.1
  obtain ⟨A, R1, R2, R3, R4, R5, R6, RG, RU⟩ := id R
  exact ⟨_, _, _, by decide, by decide, vi, ct_xcopper ok hst H, fun _ _ _ _ _ _ _ _ _ _ _ _ _ => ct_X12_copper ok R.1⟩)
set_option maxRecDepth 100000 in
theorem pr_copperAgain (ok : Ok G) : Pair l G mX11_copperAgain mX12_copperAgain [] vI := Pair.rd (fun h N ns np no isv flt hst H R => by
  obtain ⟨a2, a3, a4, b2, b3, b4, AP, AO⟩ := R.1
  obtain ⟨A, R1, R2, R3, R4, R5, R6, RG, RU⟩ := id R
  exact ⟨_, _, _, by decide, by decide, vi, ct_xcopperAgain ok hst H, fun _ _ _ _ _ _ _ _ _ _ _ _ _ => ct_X12_copperAgain ok R.1⟩)
theorem ca_e (a b x y : Int32) (h : y + 20 = b + x) : 30 + a - b - (x - 20) = 30 + a - y := by
  have e : y = b + (x - 20) := by
    have := congrArg (fun z => z - 20) h
    simp only [Int32.add_sub_cancel] at this
    rw [this, Int32.sub_eq_add_neg, Int32.sub_eq_add_neg, Int32.add_assoc]
  rw [e]
  simp only [Int32.sub_eq_add_neg, Int32.neg_add]
  ac_rfl
theorem ba_e (x y : Int32) : 20 + (x - 20) - y = x - y := by
  rw [Int32.add_comm, Int32.sub_add_cancel]
set_option maxRecDepth 100000 in
theorem pr_coinsAgain (ok : Ok G) : Pair l G mX11_coinsAgain mX12_coinsAgain [] vI := Pair.rd (fun h N ns np no isv flt hst H R => by
  obtain ⟨a2, a3, a4, b2, b3, b4, AP, AO⟩ := R.1
  obtain ⟨A, R1, R2, R3, R4, R5, R6, RG, RU⟩ := id R
  exact ⟨_, _, _, by decide, by decide, vi, (ct_xcoinsAgain ok hst H).cg (by rw [R5, ca_e _ _ _ _ R6]) rfl, fun _ _ _ _ _ _ _ _ _ _ _ _ _ => ct_X12_coinsAgain ok⟩)
set_option maxRecDepth 100000 in
theorem pr_barsAgain (ok : Ok G) : Pair l G mX11_barsAgain mX12_barsAgain [] vI := Pair.rd (fun h N ns np no isv flt hst H R => by
  obtain ⟨a2, a3, a4, b2, b3, b4, AP, AO⟩ := R.1
  obtain ⟨A, R1, R2, R3, R4, R5, R6, RG, RU⟩ := id R
  exact ⟨_, _, _, by decide, by decide, vi, (ct_xbarsAgain ok hst H).cg (by rw [ba_e]) rfl, fun _ _ _ _ _ _ _ _ _ _ _ _ _ => ct_X12_barsAgain ok⟩)
set_option maxRecDepth 100000 in
theorem pr_soldShare (ok : Ok G) : Pair l G mX11_soldShare mX12_soldShare [] vD := Pair.rd (fun h N ns np no isv flt hst H R => by
  obtain ⟨a2, a3, a4, b2, b3, b4, AP, AO⟩ := R.1
  obtain ⟨A, R1, R2, R3, R4, R5, R6, RG, RU⟩ := id R
  obtain ⟨s, es, hs⟩ := so_n (N := N) b3
  have e1 : sm (fun j => soldK (N (191 + 5 * j))) no = nI s := by rw [← R2, es]
  have e2 : N 3 - sm (fun i => if soldK (N (66 + 8 * i)) = 0 then (1 : Int32) else 0) np = nI s := by
    rw [a3, ← shop_e N np, es, Int32.add_comm, Int32.add_sub_cancel]
  have hn : ¬ N 3 = 0 → vf_n64 (FP.ddiv (FP.i2d (nI s)) (FP.i2d (N 3))) := fun z => by
    rw [a3]; exact ddiv_n s (by omega) np (by omega) (fun q => z (by rw [a3, q]; rfl))
  have hv : vD (.double (if N 3 = 0 then 0 else FP.ddiv (FP.i2d (nI s)) (FP.i2d (N 3)))) := ⟨_, rfl⟩
  exact ⟨_, _, _, by decide, by decide, hv, (ct_xsoldShare ok hst H (by rw [e1]; exact hn)).cg (by rw [e1]) rfl, fun _ _ _ _ _ _ _ _ _ _ _ _ _ => (ct_X12_soldShare ok R.1 (by rw [e2]; exact hn)).cg (by rw [e2]) rfl⟩)
end PAIRS
