/-! ===== the class between two calls of the law ===== -/
def Cs (G : Gl) (h : Hp) (N : Nat → Int32) (ns np no : Nat) : Prop := ∃ (isv flt : Int32) (c nx cn : Nat) (f d : Nat → Int32), h (Ad G 0) = some (eSt G isv flt) ∧ h (Ad G 1) = some (.inr (9, [.ref (Ad G 1000), .ref (Ad G 2)])) ∧ ShW G h 1000 N ns np no ∧ RsW G h c f d ∧ HiW G h nx cn ∧ nx < 9 ∧ cn ≤ 8 ∧ (∀ i, i < 9 → ∃ M a b e, ShW G h (100 * (i + 1)) M a b e) ∧ ∃ sz g, ChW G h sz g
theorem x_rcC {G : Gl} {h : Hp} {N : Nat → Int32} {ns np no : Nat} (C : Cs G h N ns np no) : ∀ (s : State) (H : Heap) (locs : List Loc), Sta G s → Rep G h H → va_S G.2.2.1 s.heap H locs → ∃ cell : Cell, H[Ad G 0]? = some cell ∧ cell.vm.isStatics = false ∧ s.vm.findClass RX11 = some cell.cls := by
  obtain ⟨isv, flt, c, nx, cn, f, d, hst, -⟩ := C
  exact x_recv hst rfl
theorem ctR_P {l : Launch} {G : Gl} {M : MM} {d : Nat} {args : List Value} {h h2 : Hp} {v v' : Option Value} {P : Hp → Prop} (k : CtR l G M d args h v h2) (e : v = v') (hP : P h2) : CtP l G M d 0 0 args h v' P := Ct.mono k (fun w h' q => ⟨by rw [q.1, e], by rw [q.2]; exact hP⟩)
theorem Cs.nn {G : Gl} {h : Hp} {N : Nat → Int32} {ns np no : Nat} (C : Cs G h N ns np no) : N 2 = nI ns ∧ N 3 = nI np ∧ N 4 = nI no ∧ ns ≤ 12 ∧ np ≤ 16 ∧ no ≤ 8 := by
  obtain ⟨isv, flt, c, nx, cn, f, d, hst, hm, ⟨-, -, -, -, -, c1, c2, c3, b1, b2, b3, -⟩, -⟩ := C
  exact ⟨c1, c2, c3, b1, b2, b3⟩
theorem shw_n {G : Gl} (ok : Ok G) {N : Nat → Int32} {h : Hp} {B ns np no : Nat} (H : ShW G h B N ns np no) (hB : 100 ≤ B) (hB2 : B + 60 < 3000) {e1 e2 : va_E} : ShW G (hset (hset h (Ad G 7) e1) (Ad G 8) e2) B N ns np no :=
  H.fr (P := fun a => a = Ad G 7 ∨ a = Ad G 8) ((Fr.rf.st (Or.inl rfl)).st (Or.inr rfl)) (fun i hi => not_or.mpr ⟨nA ok (by omega) (by omega) (by omega), nA ok (by omega) (by omega) (by omega)⟩)
/-- behind a call that listens to the pots -/
theorem Cs.ch {G : Gl} {h : Hp} {N : Nat → Int32} {ns np no : Nat} (ok : Ok G) (C : Cs G h N ns np no) (g' : Nat → Int32) : Cs G (hset (hset h (Ad G 7) (.inr (1, [.ref (Ad G 8), .int (nI np)]))) (Ad G 8) (eI G 16 g')) N ns np no := by
  obtain ⟨isv, flt, c, nx, cn, f, d, hst, hm, H, ⟨r1, r2, r3⟩, ⟨i1, i2⟩, hnx, hcn, HR, sz, g, C7⟩ := C
  have k : ∀ {j : Nat} {e : va_E}, j < 3000 → j ≠ 7 → j ≠ 8 → h (Ad G j) = some e → hset (hset h (Ad G 7) (.inr (1, [.ref (Ad G 8), .int (nI np)]))) (Ad G 8) (eI G 16 g') (Ad G j) = some e := fun hj n7 n8 e => by
    rw [hset_n (nA ok hj (by omega) n8), hset_n (nA ok hj (by omega) n7)]; exact e
  refine ⟨isv, flt, c, nx, cn, f, d, k (by omega) (by omega) (by omega) hst, k (by omega) (by omega) (by omega) hm, shw_n ok H (by omega) (by omega), ⟨k (by omega) (by omega) (by omega) r1, k (by omega) (by omega) (by omega) r2, k (by omega) (by omega) (by omega) r3⟩, ⟨k (by omega) (by omega) (by omega) i1, k (by omega) (by omega) (by omega) i2⟩, hnx, hcn, fun i hi => ?_, np, g', ?_, hset_s⟩
  · obtain ⟨M, a, b, e, W⟩ := HR i hi
    exact ⟨M, a, b, e, shw_n ok W (by omega) (by omega)⟩
  · rw [hset_n (nA ok (by omega) (by omega) (by omega)), hset_s]
theorem q_pt0 {l : Launch} {G : Gl} {h : Hp} {N : Nat → Int32} {ns np no : Nat} (ok : Ok G) (C : Cs G h N ns np no) {i : Nat} (hi : i < np) : CtR l G mX11_potOf 6 [.ref (Ad G 0), .int (nI i), .int 0] h (some (.int (kNum (kOf (N (60 + 8 * i)))))) h := by
  obtain ⟨isv, flt, c, nx, cn, f, d, hst, hm, H, Rr, HH, hnx, hcn, HR, sz, g, C7⟩ := C
  exact (ct_xpotOf_in ok hst H hi 0).cg (by simp [tlP]) rfl
theorem q_pt1 {l : Launch} {G : Gl} {h : Hp} {N : Nat → Int32} {ns np no : Nat} (ok : Ok G) (C : Cs G h N ns np no) {i : Nat} (hi : i < np) : CtR l G mX11_potOf 6 [.ref (Ad G 0), .int (nI i), .int 1] h (some (.int (N (61 + 8 * i)))) h := by
  obtain ⟨isv, flt, c, nx, cn, f, d, hst, hm, H, Rr, HH, hnx, hcn, HR, sz, g, C7⟩ := C
  exact (ct_xpotOf_in ok hst H hi 1).cg (by simp [tlP]) rfl
theorem q_pt2 {l : Launch} {G : Gl} {h : Hp} {N : Nat → Int32} {ns np no : Nat} (ok : Ok G) (C : Cs G h N ns np no) {i : Nat} (hi : i < np) : CtR l G mX11_potOf 6 [.ref (Ad G 0), .int (nI i), .int 2] h (some (.int (thickK (kOf (N (60 + 8 * i))) (N (61 + 8 * i)) (N (62 + 8 * i))))) h := by
  obtain ⟨isv, flt, c, nx, cn, f, d, hst, hm, H, Rr, HH, hnx, hcn, HR, sz, g, C7⟩ := C
  exact (ct_xpotOf_in ok hst H hi 2).cg (by simp [tlP]) rfl
theorem q_pt3 {l : Launch} {G : Gl} {h : Hp} {N : Nat → Int32} {ns np no : Nat} (ok : Ok G) (C : Cs G h N ns np no) {i : Nat} (hi : i < np) : CtR l G mX11_potOf 6 [.ref (Ad G 0), .int (nI i), .int 3] h (some (.int (N (62 + 8 * i)))) h := by
  obtain ⟨isv, flt, c, nx, cn, f, d, hst, hm, H, Rr, HH, hnx, hcn, HR, sz, g, C7⟩ := C
  exact (ct_xpotOf_in ok hst H hi 3).cg (by simp [tlP]) rfl
theorem q_pt4 {l : Launch} {G : Gl} {h : Hp} {N : Nat → Int32} {ns np no : Nat} (ok : Ok G) (C : Cs G h N ns np no) {i : Nat} (hi : i < np) : CtR l G mX11_potOf 6 [.ref (Ad G 0), .int (nI i), .int 4] h (some (.int (N (63 + 8 * i)))) h := by
  obtain ⟨isv, flt, c, nx, cn, f, d, hst, hm, H, Rr, HH, hnx, hcn, HR, sz, g, C7⟩ := C
  exact (ct_xpotOf_in ok hst H hi 4).cg (by simp [tlP]) rfl
theorem q_pt5 {l : Launch} {G : Gl} {h : Hp} {N : Nat → Int32} {ns np no : Nat} (ok : Ok G) (C : Cs G h N ns np no) {i : Nat} (hi : i < np) : CtR l G mX11_potOf 6 [.ref (Ad G 0), .int (nI i), .int 5] h (some (.int (N (64 + 8 * i)))) h := by
  obtain ⟨isv, flt, c, nx, cn, f, d, hst, hm, H, Rr, HH, hnx, hcn, HR, sz, g, C7⟩ := C
  exact (ct_xpotOf_in ok hst H hi 5).cg (by simp [tlP]) rfl
theorem q_pt6 {l : Launch} {G : Gl} {h : Hp} {N : Nat → Int32} {ns np no : Nat} (ok : Ok G) (C : Cs G h N ns np no) {i : Nat} (hi : i < np) : CtR l G mX11_potOf 6 [.ref (Ad G 0), .int (nI i), .int 6] h (some (.int (smoothK (kOf (N (60 + 8 * i))) (N (62 + 8 * i))))) h := by
  obtain ⟨isv, flt, c, nx, cn, f, d, hst, hm, H, Rr, HH, hnx, hcn, HR, sz, g, C7⟩ := C
  exact (ct_xpotOf_in ok hst H hi 6).cg (by simp [tlP]) rfl
theorem q_pt7 {l : Launch} {G : Gl} {h : Hp} {N : Nat → Int32} {ns np no : Nat} (ok : Ok G) (C : Cs G h N ns np no) {i : Nat} (hi : i < np) : CtR l G mX11_potOf 6 [.ref (Ad G 0), .int (nI i), .int 7] h (some (.int (crackedK (kOf (N (60 + 8 * i))) (N (61 + 8 * i)) (N (62 + 8 * i))))) h := by
  obtain ⟨isv, flt, c, nx, cn, f, d, hst, hm, H, Rr, HH, hnx, hcn, HR, sz, g, C7⟩ := C
  exact (ct_xpotOf_in ok hst H hi 7).cg (by simp [tlP]) rfl
theorem q_pt8 {l : Launch} {G : Gl} {h : Hp} {N : Nat → Int32} {ns np no : Nat} (ok : Ok G) (C : Cs G h N ns np no) {i : Nat} (hi : i < np) : CtR l G mX11_potOf 6 [.ref (Ad G 0), .int (nI i), .int 8] h (some (.int (N (66 + 8 * i)))) h := by
  obtain ⟨isv, flt, c, nx, cn, f, d, hst, hm, H, Rr, HH, hnx, hcn, HR, sz, g, C7⟩ := C
  exact (ct_xpotOf_in ok hst H hi 8).cg (by simp [tlP]) rfl
theorem q_pt9 {l : Launch} {G : Gl} {h : Hp} {N : Nat → Int32} {ns np no : Nat} (ok : Ok G) (C : Cs G h N ns np no) {i : Nat} (hi : i < np) : CtR l G mX11_potOf 6 [.ref (Ad G 0), .int (nI i), .int 9] h (some (.int (N (67 + 8 * i)))) h := by
  obtain ⟨isv, flt, c, nx, cn, f, d, hst, hm, H, Rr, HH, hnx, hcn, HR, sz, g, C7⟩ := C
  exact (ct_xpotOf_in ok hst H hi 9).cg (by simp [tlP]) rfl
theorem q_sh0 {l : Launch} {G : Gl} {h : Hp} {N : Nat → Int32} {ns np no : Nat} (ok : Ok G) (C : Cs G h N ns np no) {i : Nat} (hi : i < ns) : CtR l G mX11_sheetOf 6 [.ref (Ad G 0), .int (nI i), .int 0] h (some (.int (N (12 + 4 * i)))) h := by
  obtain ⟨isv, flt, c, nx, cn, f, d, hst, hm, H, Rr, HH, hnx, hcn, HR, sz, g, C7⟩ := C
  exact (ct_xsheetOf_in ok hst H hi 0).cg (by simp [tlS]) rfl
theorem q_sh1 {l : Launch} {G : Gl} {h : Hp} {N : Nat → Int32} {ns np no : Nat} (ok : Ok G) (C : Cs G h N ns np no) {i : Nat} (hi : i < ns) : CtR l G mX11_sheetOf 6 [.ref (Ad G 0), .int (nI i), .int 1] h (some (.int (N (13 + 4 * i)))) h := by
  obtain ⟨isv, flt, c, nx, cn, f, d, hst, hm, H, Rr, HH, hnx, hcn, HR, sz, g, C7⟩ := C
  exact (ct_xsheetOf_in ok hst H hi 1).cg (by simp [tlS]) rfl
theorem q_sh2 {l : Launch} {G : Gl} {h : Hp} {N : Nat → Int32} {ns np no : Nat} (ok : Ok G) (C : Cs G h N ns np no) {i : Nat} (hi : i < ns) : CtR l G mX11_sheetOf 6 [.ref (Ad G 0), .int (nI i), .int 2] h (some (.int (N (14 + 4 * i)))) h := by
  obtain ⟨isv, flt, c, nx, cn, f, d, hst, hm, H, Rr, HH, hnx, hcn, HR, sz, g, C7⟩ := C
  exact (ct_xsheetOf_in ok hst H hi 2).cg (by simp [tlS]) rfl
theorem q_sh3 {l : Launch} {G : Gl} {h : Hp} {N : Nat → Int32} {ns np no : Nat} (ok : Ok G) (C : Cs G h N ns np no) {i : Nat} (hi : i < ns) : CtR l G mX11_sheetOf 6 [.ref (Ad G 0), .int (nI i), .int 3] h (some (.int (N (15 + 4 * i)))) h := by
  obtain ⟨isv, flt, c, nx, cn, f, d, hst, hm, H, Rr, HH, hnx, hcn, HR, sz, g, C7⟩ := C
  exact (ct_xsheetOf_in ok hst H hi 3).cg (by simp [tlS]) rfl
theorem q_or0 {l : Launch} {G : Gl} {h : Hp} {N : Nat → Int32} {ns np no : Nat} (ok : Ok G) (C : Cs G h N ns np no) {i : Nat} (hi : i < no) : CtR l G mX11_orderOf 6 [.ref (Ad G 0), .int (nI i), .int 0] h (some (.int (kNum (kOf (N (188 + 5 * i)))))) h := by
  obtain ⟨isv, flt, c, nx, cn, f, d, hst, hm, H, Rr, HH, hnx, hcn, HR, sz, g, C7⟩ := C
  exact (ct_xorderOf_in ok hst H hi 0).cg (by simp [tlO]) rfl
theorem q_or1 {l : Launch} {G : Gl} {h : Hp} {N : Nat → Int32} {ns np no : Nat} (ok : Ok G) (C : Cs G h N ns np no) {i : Nat} (hi : i < no) : CtR l G mX11_orderOf 6 [.ref (Ad G 0), .int (nI i), .int 1] h (some (.int (N (189 + 5 * i)))) h := by
  obtain ⟨isv, flt, c, nx, cn, f, d, hst, hm, H, Rr, HH, hnx, hcn, HR, sz, g, C7⟩ := C
  exact (ct_xorderOf_in ok hst H hi 1).cg (by simp [tlO]) rfl
theorem q_or2 {l : Launch} {G : Gl} {h : Hp} {N : Nat → Int32} {ns np no : Nat} (ok : Ok G) (C : Cs G h N ns np no) {i : Nat} (hi : i < no) : CtR l G mX11_orderOf 6 [.ref (Ad G 0), .int (nI i), .int 2] h (some (.int (N (190 + 5 * i)))) h := by
  obtain ⟨isv, flt, c, nx, cn, f, d, hst, hm, H, Rr, HH, hnx, hcn, HR, sz, g, C7⟩ := C
  exact (ct_xorderOf_in ok hst H hi 2).cg (by simp [tlO]) rfl
theorem q_or3 {l : Launch} {G : Gl} {h : Hp} {N : Nat → Int32} {ns np no : Nat} (ok : Ok G) (C : Cs G h N ns np no) {i : Nat} (hi : i < no) : CtR l G mX11_orderOf 6 [.ref (Ad G 0), .int (nI i), .int 3] h (some (.int (N (191 + 5 * i)))) h := by
  obtain ⟨isv, flt, c, nx, cn, f, d, hst, hm, H, Rr, HH, hnx, hcn, HR, sz, g, C7⟩ := C
  exact (ct_xorderOf_in ok hst H hi 3).cg (by simp [tlO]) rfl
theorem q_or4 {l : Launch} {G : Gl} {h : Hp} {N : Nat → Int32} {ns np no : Nat} (ok : Ok G) (C : Cs G h N ns np no) {i : Nat} (hi : i < no) : CtR l G mX11_orderOf 6 [.ref (Ad G 0), .int (nI i), .int 4] h (some (.int (N (192 + 5 * i)))) h := by
  obtain ⟨isv, flt, c, nx, cn, f, d, hst, hm, H, Rr, HH, hnx, hcn, HR, sz, g, C7⟩ := C
  exact (ct_xorderOf_in ok hst H hi 4).cg (by simp [tlO]) rfl
theorem q_ac0 {l : Launch} {G : Gl} {h : Hp} {N : Nat → Int32} {ns np no : Nat} (ok : Ok G) (C : Cs G h N ns np no)  : CtR l G mX11_account 6 [.ref (Ad G 0), .int 0] h (some (.int (N 0))) h := by
  obtain ⟨isv, flt, c, nx, cn, f, d, hst, hm, H, Rr, HH, hnx, hcn, HR, sz, g, C7⟩ := C
  exact Ct.mono (ct_xaccount_0 ok hst H) (fun w h' q => ⟨q.1.trans (by rfl), q.2⟩)
theorem q_ac1 {l : Launch} {G : Gl} {h : Hp} {N : Nat → Int32} {ns np no : Nat} (ok : Ok G) (C : Cs G h N ns np no)  : CtR l G mX11_account 6 [.ref (Ad G 0), .int 1] h (some (.int (N 1))) h := by
  obtain ⟨isv, flt, c, nx, cn, f, d, hst, hm, H, Rr, HH, hnx, hcn, HR, sz, g, C7⟩ := C
  exact Ct.mono (ct_xaccount_1 ok hst H) (fun w h' q => ⟨q.1.trans (by rfl), q.2⟩)
theorem q_ac2 {l : Launch} {G : Gl} {h : Hp} {N : Nat → Int32} {ns np no : Nat} (ok : Ok G) (C : Cs G h N ns np no)  : CtR l G mX11_account 6 [.ref (Ad G 0), .int 2] h (some (.int (N 2))) h := by
  obtain ⟨isv, flt, c, nx, cn, f, d, hst, hm, H, Rr, HH, hnx, hcn, HR, sz, g, C7⟩ := C
  exact Ct.mono (ct_xaccount_2 ok hst H) (fun w h' q => ⟨q.1.trans (by rfl), q.2⟩)
theorem q_ac3 {l : Launch} {G : Gl} {h : Hp} {N : Nat → Int32} {ns np no : Nat} (ok : Ok G) (C : Cs G h N ns np no)  : CtR l G mX11_account 6 [.ref (Ad G 0), .int 3] h (some (.int (N 3))) h := by
  obtain ⟨isv, flt, c, nx, cn, f, d, hst, hm, H, Rr, HH, hnx, hcn, HR, sz, g, C7⟩ := C
  exact Ct.mono (ct_xaccount_3 ok hst H) (fun w h' q => ⟨q.1.trans (by rfl), q.2⟩)
theorem q_ac4 {l : Launch} {G : Gl} {h : Hp} {N : Nat → Int32} {ns np no : Nat} (ok : Ok G) (C : Cs G h N ns np no)  : CtR l G mX11_account 6 [.ref (Ad G 0), .int 4] h (some (.int (N 3 - sm (fun i => soldK (N (191 + 5 * i))) no))) h := by
  obtain ⟨isv, flt, c, nx, cn, f, d, hst, hm, H, Rr, HH, hnx, hcn, HR, sz, g, C7⟩ := C
  exact Ct.mono (ct_xaccount_4 ok hst H) (fun w h' q => ⟨q.1.trans (by rfl), q.2⟩)
theorem q_ac5 {l : Launch} {G : Gl} {h : Hp} {N : Nat → Int32} {ns np no : Nat} (ok : Ok G) (C : Cs G h N ns np no)  : CtR l G mX11_account 6 [.ref (Ad G 0), .int 5] h (some (.int (sm (fun i => smoothK (kOf (N (60 + 8 * i))) (N (62 + 8 * i))) np))) h := by
  obtain ⟨isv, flt, c, nx, cn, f, d, hst, hm, H, Rr, HH, hnx, hcn, HR, sz, g, C7⟩ := C
  exact Ct.mono (ct_xaccount_5 ok hst H) (fun w h' q => ⟨q.1.trans (by simp [tlP]), q.2⟩)
theorem q_ac6 {l : Launch} {G : Gl} {h : Hp} {N : Nat → Int32} {ns np no : Nat} (ok : Ok G) (C : Cs G h N ns np no)  : CtR l G mX11_account 6 [.ref (Ad G 0), .int 6] h (some (.int (sm (fun i => crackedK (kOf (N (60 + 8 * i))) (N (61 + 8 * i)) (N (62 + 8 * i))) np))) h := by
  obtain ⟨isv, flt, c, nx, cn, f, d, hst, hm, H, Rr, HH, hnx, hcn, HR, sz, g, C7⟩ := C
  exact Ct.mono (ct_xaccount_6 ok hst H) (fun w h' q => ⟨q.1.trans (by simp [tlP]), q.2⟩)
theorem q_ac7 {l : Launch} {G : Gl} {h : Hp} {N : Nat → Int32} {ns np no : Nat} (ok : Ok G) (C : Cs G h N ns np no)  : CtR l G mX11_account 6 [.ref (Ad G 0), .int 7] h (some (.int (N 4))) h := by
  obtain ⟨isv, flt, c, nx, cn, f, d, hst, hm, H, Rr, HH, hnx, hcn, HR, sz, g, C7⟩ := C
  exact Ct.mono (ct_xaccount_7 ok hst H) (fun w h' q => ⟨q.1.trans (by rfl), q.2⟩)
theorem q_ac8 {l : Launch} {G : Gl} {h : Hp} {N : Nat → Int32} {ns np no : Nat} (ok : Ok G) (C : Cs G h N ns np no)  : CtR l G mX11_account 6 [.ref (Ad G 0), .int 8] h (some (.int (sm (fun i => soldK (N (191 + 5 * i))) no))) h := by
  obtain ⟨isv, flt, c, nx, cn, f, d, hst, hm, H, Rr, HH, hnx, hcn, HR, sz, g, C7⟩ := C
  exact Ct.mono (ct_xaccount_8 ok hst H) (fun w h' q => ⟨q.1.trans (by rfl), q.2⟩)
theorem q_ac13 {l : Launch} {G : Gl} {h : Hp} {N : Nat → Int32} {ns np no : Nat} (ok : Ok G) (C : Cs G h N ns np no)  : CtR l G mX11_account 6 [.ref (Ad G 0), .int 13] h (some (.int (sm (fun i => N (192 + 5 * i)) no))) h := by
  obtain ⟨isv, flt, c, nx, cn, f, d, hst, hm, H, Rr, HH, hnx, hcn, HR, sz, g, C7⟩ := C
  exact Ct.mono (ct_xaccount_13 ok hst H) (fun w h' q => ⟨q.1.trans (by rfl), q.2⟩)
theorem q_snd {l : Launch} {G : Gl} {h : Hp} {N : Nat → Int32} {ns np no : Nat} (ok : Ok G) (C : Cs G h N ns np no) {i : Nat} (hi : i < np) : CtR l G mX11_sound 6 [.ref (Ad G 0), .int (nI i)] h (some (.int (snM N i))) h := by
  obtain ⟨isv, flt, c, nx, cn, f, d, hst, hm, H, Rr, HH, hnx, hcn, HR, sz, g, C7⟩ := C
  exact ct_xsound_in ok hst H hi
theorem q_sna {l : Launch} {G : Gl} {h : Hp} {N : Nat → Int32} {ns np no : Nat} (ok : Ok G) (C : Cs G h N ns np no) {i : Nat} (P : PotI N i) (hi : i < np) : CtR l G mX11_soundAgain 6 [.ref (Ad G 0), .int (nI i)] h (some (.int (snM N i))) h := by
  obtain ⟨isv, flt, c, nx, cn, f, d, hst, hm, H, Rr, HH, hnx, hcn, HR, sz, g, C7⟩ := C
  obtain ⟨t, ht, ht9⟩ := P.2.2.2.1
  obtain ⟨n9, hn, hn9⟩ := thk_e P
  exact ct_xsoundAgain_in ok hst H hi ht ht9 hn9 hn
theorem q_bl0 {l : Launch} {G : Gl} {h : Hp} {N : Nat → Int32} {ns np no : Nat} (ok : Ok G) (C : Cs G h N ns np no) {i : Nat} (hi : i < np) : CtR l G mX11_blowsTo 6 [.ref (Ad G 0), .int (nI i), .int 0] h (some (.int (mx (kSm (kOf (N (60 + 8 * i))) - N (62 + 8 * i)) 0))) h := by
  obtain ⟨isv, flt, c, nx, cn, f, d, hst, hm, H, Rr, HH, hnx, hcn, HR, sz, g, C7⟩ := C
  exact (ct_xblowsTo_in ok hst H hi 0).cg (by simp) rfl
theorem q_bl1 {l : Launch} {G : Gl} {h : Hp} {N : Nat → Int32} {ns np no : Nat} (ok : Ok G) (C : Cs G h N ns np no) {i : Nat} (hi : i < np) : CtR l G mX11_blowsTo 6 [.ref (Ad G 0), .int (nI i), .int 1] h (some (.int (mx (crackK (kOf (N (60 + 8 * i))) (N (61 + 8 * i)) - N (62 + 8 * i)) 0))) h := by
  obtain ⟨isv, flt, c, nx, cn, f, d, hst, hm, H, Rr, HH, hnx, hcn, HR, sz, g, C7⟩ := C
  exact (ct_xblowsTo_in ok hst H hi 1).cg (by simp) rfl
theorem q_ws {l : Launch} {G : Gl} {h : Hp} {N : Nat → Int32} {ns np no : Nat} (ok : Ok G) (C : Cs G h N ns np no) {i : Nat} (hi : i < np) (y : Int32) (hy : ¬ (y < 0 ∨ 99 < y)) : CtR l G mX11_wouldSound 6 [.ref (Ad G 0), .int (nI i), .int y, .int 0] h (some (.int (ringK (kOf (N (60 + 8 * i))) (N (61 + 8 * i)) (N (62 + 8 * i) + y) (mn (N (63 + 8 * i) + 0) 9)))) h := by
  obtain ⟨isv, flt, c, nx, cn, f, d, hst, hm, H, Rr, HH, hnx, hcn, HR, sz, g, C7⟩ := C
  refine (ct_xwouldSound_in ok hst H hi y 0).cg ?_ rfl
  rw [if_neg (fun z => z.elim (fun a => hy (Or.inl a)) (fun z => z.elim (fun a => hy (Or.inr a)) (fun z => z.elim (by decide) (by decide))))]
theorem q_al {l : Launch} {G : Gl} {h : Hp} {N : Nat → Int32} {ns np no : Nat} (ok : Ok G) (C : Cs G h N ns np no) {i j : Nat} (hi : i < np) (hj : j < np) : CtR l G mX11_isAlike 6 [.ref (Ad G 0), .int (nI i), .int (nI j)] h (some (.int (alK (snM N i) (snM N j)))) h := by
  obtain ⟨isv, flt, c, nx, cn, f, d, hst, hm, H, Rr, HH, hnx, hcn, HR, sz, g, C7⟩ := C
  exact ct_xisAlike_ii ok hst H hi hj
theorem q_cp {l : Launch} {G : Gl} {h : Hp} {N : Nat → Int32} {ns np no : Nat} (ok : Ok G) (C : Cs G h N ns np no)  : CtR l G mX11_copper 6 [.ref (Ad G 0)] h (some (.int (sm2 (fun i => kArea (kOf (N (60 + 8 * i))) * N (61 + 8 * i)) (sm (fun i => N (13 + 4 * i) * N (12 + 4 * i)) ns) np))) h := by
  obtain ⟨isv, flt, c, nx, cn, f, d, hst, hm, H, Rr, HH, hnx, hcn, HR, sz, g, C7⟩ := C
  exact ct_xcopper ok hst H
theorem q_ca {l : Launch} {G : Gl} {h : Hp} {N : Nat → Int32} {ns np no : Nat} (ok : Ok G) (C : Cs G h N ns np no)  : CtR l G mX11_copperAgain 6 [.ref (Ad G 0)] h (some (.int (sm (fun i => N (15 + 4 * i) * N (12 + 4 * i)) ns))) h := by
  obtain ⟨isv, flt, c, nx, cn, f, d, hst, hm, H, Rr, HH, hnx, hcn, HR, sz, g, C7⟩ := C
  exact ct_xcopperAgain ok hst H
theorem q_co {l : Launch} {G : Gl} {h : Hp} {N : Nat → Int32} {ns np no : Nat} (ok : Ok G) (C : Cs G h N ns np no)  : CtR l G mX11_coinsAgain 6 [.ref (Ad G 0)] h (some (.int (30 + sm (fun i => N (192 + 5 * i)) no - sm (fun i => N (12 + 4 * i)) ns - (N 11 - 20)))) h := by
  obtain ⟨isv, flt, c, nx, cn, f, d, hst, hm, H, Rr, HH, hnx, hcn, HR, sz, g, C7⟩ := C
  exact ct_xcoinsAgain ok hst H
theorem q_ba {l : Launch} {G : Gl} {h : Hp} {N : Nat → Int32} {ns np no : Nat} (ok : Ok G) (C : Cs G h N ns np no)  : CtR l G mX11_barsAgain 6 [.ref (Ad G 0)] h (some (.int (20 + (N 11 - 20) - N 8))) h := by
  obtain ⟨isv, flt, c, nx, cn, f, d, hst, hm, H, Rr, HH, hnx, hcn, HR, sz, g, C7⟩ := C
  exact ct_xbarsAgain ok hst H
theorem q_gf {l : Launch} {G : Gl} {h : Hp} {N : Nat → Int32} {ns np no : Nat} (ok : Ok G) (C : Cs G h N ns np no) {i : Nat} (hi : i < no) : CtR l G mX11_goodFor 6 [.ref (Ad G 0), .int (nI i)] h (some (.int (lowN N 0 i np))) h := by
  obtain ⟨isv, flt, c, nx, cn, f, d, hst, hm, H, Rr, HH, hnx, hcn, HR, sz, g, C7⟩ := C
  exact ct_xgoodFor_in ok hst H hi
theorem q_gfo {l : Launch} {G : Gl} {h : Hp} {N : Nat → Int32} {ns np no : Nat} (ok : Ok G) (C : Cs G h N ns np no) {x : Int32} (hx : ¬ (0 ≤ x ∧ x < N 4)) : CtR l G mX11_goodFor 6 [.ref (Ad G 0), .int x] h (some (.int (-1))) h := by
  obtain ⟨isv, flt, c, nx, cn, f, d, hst, hm, H, Rr, HH, hnx, hcn, HR, sz, g, C7⟩ := C
  exact ct_xgoodFor_out ok hst H hx
/-- what is listened to, without what lay in the row before -/
abbrev lz (N : Nat → Int32) (np : Nat) : Nat → Int32 := lsF N (fun _ => 0) np
theorem lsF_c {N g : Nat → Int32} {np i : Nat} (hi : i < np) : lsF N g np i = lz N np i := (if_pos hi).trans (if_pos hi).symm
theorem ahI_c {f f' : Nat → Int32} {n i j : Nat} (e : ∀ i, i < n → f i = f' i) (hi : i < n) (hj : j < n) : ahI f i j = ahI f' i j := by unfold ahI; rw [e i hi, e j hj]
theorem lowD_c {d : Int32} {p p' : Nat → Bool} {n : Nat} (e : ∀ i, i < n → p i = p' i) : ∀ k, k ≤ n → lowD d p n k = lowD d p' n k
  | 0, _ => rfl
  | k + 1, hk => by rw [lowD, lowD, e (n - (k + 1)) (by omega), lowD_c e k (by omega)]
theorem sm_c {f g : Nat → Int32} : ∀ n, (∀ i, i < n → f i = g i) → sm f n = sm g n
  | 0, _ => rfl
  | n + 1, h => by rw [sm_s, sm_s, sm_c n (fun i hi => h i (by omega)), h n (by omega)]
theorem plS_c {f f' : Nat → Int32} {n : Nat} (e : ∀ i, i < n → f i = f' i) (x : Int32) : plS f n x = plS f' n x := by
  unfold plS
  refine lowD_c (fun i hi => ?_) n (Nat.le_refl n)
  rw [e i hi, sm_c n (fun j hj => ahI_c (f := f) (f' := f') e hi hj)]
theorem laS_c {f f' : Nat → Int32} (x : Int32) : ∀ n, (∀ i, i < n → f i = f' i) → laS f x n = laS f' x n
  | 0, _ => rfl
  | n + 1, h => by rw [laS, laS, laS_c x n (fun i hi => h i (by omega)), h n (by omega)]
theorem chL_c {f f' : Nat → Int32} {n : Nat} (e : ∀ i, i < n → f i = f' i) : ∀ i, chL f n i = chL f' n i
  | 0 => laS_c _ n e
  | i + 1 => by rw [chL, chL, chL_c e i]; exact laS_c _ n e
theorem chS_c {f f' : Nat → Int32} {n : Nat} (e : ∀ i, i < n → f i = f' i) (x : Int32) : chS f n x = chS f' n x := by
  unfold chS
  rw [laS_c _ n e]
  have : (fun i => decide (chL f n i = -1 ∨ ¬ chL f n i - chL f n (i - 1) ≤ x)) = fun i => decide (chL f' n i = -1 ∨ ¬ chL f' n i - chL f' n (i - 1) ≤ x) := funext fun i => by rw [chL_c e i, chL_c e (i - 1)]
  rw [this]
theorem clS_cg {f f' : Nat → Int32} (x : Int32) : ∀ n, n < 2 ^ 31 → (∀ i, i < n → f i = f' i) → clS f x n = clS f' x n
  | 0, _, _ => rfl
  | n + 1, hn, h => by
    have ih := clS_cg x n (by omega) (fun i hi => h i (by omega))
    rw [clS, clS, ← ih, ← h n (by omega)]
    rcases clS_c f x n with q | ⟨j, hj, q⟩
    · simp only [q, true_or]
    · rw [q, kOf_nI (by omega), h j (by omega)]
theorem prI_c {f f' : Nat → Int32} {n i j : Nat} (e : ∀ i, i < n → f i = f' i) (hi : i < n) (hj : j < n) : prI f i j = prI f' i j := by unfold prI; rw [e i hi, e j hj]
theorem msS_c {f f' : Nat → Int32} {n : Nat} (e : ∀ i, i < n → f i = f' i) : msS f n = msS f' n := sm_c n (fun i hi => by rw [e i hi])
theorem mrS_c {f f' : Nat → Int32} {n : Nat} (e : ∀ i, i < n → f i = f' i) : mrS f n = mrS f' n := sm_c n (fun i hi => by rw [e i hi])
theorem q_rk {l : Launch} {G : Gl} {h : Hp} {N : Nat → Int32} {ns np no : Nat} (ok : Ok G) (C : Cs G h N ns np no) (x : Int32) : CtP l G mX11_ranked 6 0 0 [.ref (Ad G 0), .int x] h (some (.int (plS (lz N np) np x))) (fun h' => Cs G h' N ns np no) := by
  obtain ⟨isv, flt, c, nx, cn, f, d, hst, hm, H, Rr, HH, hnx, hcn, HR, sz, g, C7⟩ := C
  exact ctR_P (ct_xranked ok hst H C7 x) (by rw [plS_c (fun i hi => lsF_c hi)]) (Cs.ch ok ⟨isv, flt, c, nx, cn, f, d, hst, hm, H, Rr, HH, hnx, hcn, HR, sz, g, C7⟩ _)
theorem q_nr {l : Launch} {G : Gl} {h : Hp} {N : Nat → Int32} {ns np no : Nat} (ok : Ok G) (C : Cs G h N ns np no) (x : Int32) (hx : ¬ (x < 0 ∨ 120 < x)) : CtP l G mX11_nearest 6 0 0 [.ref (Ad G 0), .int x] h (some (.int (clS (lz N np) x np))) (fun h' => Cs G h' N ns np no) := by
  obtain ⟨isv, flt, c, nx, cn, f, d, hst, hm, H, Rr, HH, hnx, hcn, HR, sz, g, C7⟩ := C
  have b3 := H.2.2.2.2.2.2.2.2.2.1
  exact ctR_P (ct_xnearest_in ok hst H C7 x hx) (by rw [clS_cg x np (by omega) (fun i hi => lsF_c hi)]) (Cs.ch ok ⟨isv, flt, c, nx, cn, f, d, hst, hm, H, Rr, HH, hnx, hcn, HR, sz, g, C7⟩ _)
theorem q_pl {l : Launch} {G : Gl} {h : Hp} {N : Nat → Int32} {ns np no : Nat} (ok : Ok G) (C : Cs G h N ns np no) (x : Int32) (hx : ¬ (x < 1 ∨ 20 < x)) : CtP l G mX11_peal 6 0 0 [.ref (Ad G 0), .int x] h (some (.int (chS (lz N np) np x))) (fun h' => Cs G h' N ns np no) := by
  obtain ⟨isv, flt, c, nx, cn, f, d, hst, hm, H, Rr, HH, hnx, hcn, HR, sz, g, C7⟩ := C
  exact ctR_P (ct_xpeal_in ok hst H C7 x hx) (by rw [chS_c (fun i hi => lsF_c hi)]) (Cs.ch ok ⟨isv, flt, c, nx, cn, f, d, hst, hm, H, Rr, HH, hnx, hcn, HR, sz, g, C7⟩ _)
theorem q_ak {l : Launch} {G : Gl} {h : Hp} {N : Nat → Int32} {ns np no : Nat} (ok : Ok G) (C : Cs G h N ns np no)  : CtP l G mX11_alike 6 0 0 [.ref (Ad G 0)] h (some (.int (sm (fun i => sm (prI (lz N np) i) i) np))) (fun h' => Cs G h' N ns np no) := by
  obtain ⟨isv, flt, c, nx, cn, f, d, hst, hm, H, Rr, HH, hnx, hcn, HR, sz, g, C7⟩ := C
  refine ctR_P (ct_xalike ok hst H C7) (congrArg (fun z => some (Value.int z)) (sm_c np (fun i hi => sm_c i (fun j hj => ?_)))) (Cs.ch ok ⟨isv, flt, c, nx, cn, f, d, hst, hm, H, Rr, HH, hnx, hcn, HR, sz, g, C7⟩ _)
  exact prI_c (n := np) (fun i hi => lsF_c hi) hi (by omega)
theorem q_ms {l : Launch} {G : Gl} {h : Hp} {N : Nat → Int32} {ns np no : Nat} (ok : Ok G) (C : Cs G h N ns np no) (hf : ¬ mrS (lz N np) np = 0 → vf_n32 (FP.fdiv (FP.i2f (msS (lz N np) np)) (FP.i2f (mrS (lz N np) np)))) : CtP l G mX11_meanSound 6 0 0 [.ref (Ad G 0)] h (some (.float (meanS (lz N np) np))) (fun h' => Cs G h' N ns np no) := by
  obtain ⟨isv, flt, c, nx, cn, f, d, hst, hm, H, Rr, HH, hnx, hcn, HR, sz, g, C7⟩ := C
  have e1 : msS (lsF N g np) np = msS (lz N np) np := msS_c (fun i hi => lsF_c hi)
  have e2 : mrS (lsF N g np) np = mrS (lz N np) np := mrS_c (fun i hi => lsF_c hi)
  exact ctR_P (ct_xmeanSound ok hst H C7 (by rw [e1, e2]; exact hf)) (by unfold meanS; rw [e1, e2]) (Cs.ch ok ⟨isv, flt, c, nx, cn, f, d, hst, hm, H, Rr, HH, hnx, hcn, HR, sz, g, C7⟩ _)
theorem q_ss {l : Launch} {G : Gl} {h : Hp} {N : Nat → Int32} {ns np no : Nat} (ok : Ok G) (C : Cs G h N ns np no) (hf : ¬ N 3 = 0 → vf_n64 (FP.ddiv (FP.i2d (sm (fun i => soldK (N (191 + 5 * i))) no)) (FP.i2d (N 3)))) : CtR l G mX11_soldShare 6 [.ref (Ad G 0)] h (some (.double (if N 3 = 0 then 0 else FP.ddiv (FP.i2d (sm (fun i => soldK (N (191 + 5 * i))) no)) (FP.i2d (N 3))))) h := by
  obtain ⟨isv, flt, c, nx, cn, f, d, hst, hm, H, Rr, HH, hnx, hcn, HR, sz, g, C7⟩ := C
  exact ct_xsoldShare ok hst H hf
