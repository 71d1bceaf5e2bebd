/-! ===== deeds as the law calls them ===== -/
theorem nI_je {a b : Nat} (ha : a < 2 ^ 31) (hb : b < 2 ^ 31) (h : nI a = nI b) : a = b := (nI_eq ha hb).mp h
theorem RI.eq {h : Hp} {G : Gl} {B : Nat} {N : Nat → Int32} {a b c a' b' c' : Nat} (R : RI N a b c) (H : ShW G h B N a' b' c') : RI N a' b' c' := by
  obtain ⟨-, -, -, -, -, c1, c2, c3, b1, b2, b3, -⟩ := H
  obtain ⟨d1, d2, d3, e1, e2, e3, -⟩ := id R.1
  have x1 := nI_je (by omega) (by omega) (d1.symm.trans c1)
  have x2 := nI_je (by omega) (by omega) (d2.symm.trans c2)
  have x3 := nI_je (by omega) (by omega) (d3.symm.trans c3)
  subst x1; subst x2; subst x3
  exact R
/-- behind a deed: the class again, with all that holds of its row -/
def Dq (G : Gl) (o : Out) (ns : Nat) (h' : Hp) : Prop := ∃ (N' : Nat → Int32) (ns' np' no' : Nat), Cs G h' N' ns' np' no' ∧ RI N' ns' np' no' ∧ RJ N' ns' np' no' ∧ ns ≤ ns' ∧ ∀ v M, o = .inr (.inr (v, M)) → N' = M
theorem Cs.de {G : Gl} {h h' : Hp} {N : Nat → Int32} {ns np no c nx cn : Nat} {f d : Nat → Int32} {isv flt : Int32} {o : Out} (ok : Ok G) (hst : h (Ad G 0) = some (eSt G isv flt)) (hm : h (Ad G 1) = some (.inr (9, [.ref (Ad G 1000), .ref (Ad G 2)]))) (H : ShW G h 1000 N ns np no) (Rr : RsW G h c f d) (HH : HiW G h nx cn) (hnx : nx < 9) (hcn : cn ≤ 8) (HR : ∀ i, i < 9 → ∃ M a b e, ShW G h (100 * (i + 1)) M a b e) (C7 : ∃ sz g, ChW G h sz g) (R : RI N ns np no) (J : RJ N ns np no) (kp : Kp o) (kj : Kj ns o) (D : DeP G h o N ns np no nx cn h') : Dq G o ns h' := by
  have D1 : ShW G h' (100 * (nx + 1)) N ns np no := D.1
  obtain ⟨r1, r2, r3⟩ := Rr
  obtain ⟨i1, i2⟩ := HH
  obtain ⟨sz, g, s1, s2⟩ := C7
  have ring : ∀ {P : Nat → Prop}, Fr P h h' → (∀ i, i < 9 → i ≠ nx → ∀ j, j < 60 → ¬ P (Ad G (100 * (i + 1) + j))) → ∀ i, i < 9 → ∃ M a b e, ShW G h' (100 * (i + 1)) M a b e := fun F hn i hi => by
    by_cases e : i = nx
    · rw [e]; exact ⟨N, ns, np, no, D1⟩
    · obtain ⟨M, a, b, e2, W⟩ := HR i hi
      exact ⟨M, a, b, e2, W.fr F (hn i hi e)⟩
  rcases o with z | (⟨w, dd, b, i⟩ | ⟨v, N'⟩)
  · have F : Fr (inB G (100 * (nx + 1)) 60) h h' := D.2
    have n0 : ∀ j, j < 100 → ¬ inB G (100 * (nx + 1)) 60 (Ad G j) := fun j hj => nB ok (by omega) (by omega) (by omega)
    exact ⟨N, ns, np, no, ⟨isv, flt, c, nx, cn, f, d, F _ _ hst (n0 0 (by omega)), F _ _ hm (n0 1 (by omega)), H.fr F (fun j hj => nB ok (by omega) (by omega) (by omega)), ⟨F _ _ r1 (n0 2 (by omega)), F _ _ r2 (n0 3 (by omega)), F _ _ r3 (n0 4 (by omega))⟩, ⟨F _ _ i1 (n0 5 (by omega)), F _ _ i2 (n0 6 (by omega))⟩, hnx, hcn, ring F (fun i hi e j hj => nB ok (by omega) (by omega) (by omega)), sz, g, F _ _ s1 (n0 7 (by omega)), F _ _ s2 (n0 8 (by omega))⟩, R, J, Nat.le_refl _, fun v M e => by cases e⟩
  · obtain ⟨⟨f', d', q1, q2, f0, d0⟩, F⟩ := (show (∃ f' d', (b = 0 → RsW G h' 1 f' d') ∧ (¬ b = 0 → RsW G h' 2 f' d' ∧ f' 1 = b ∧ d' 1 = i) ∧ f' 0 = w ∧ d' 0 = dd) ∧ Fr (fun a => inB G 2 3 a ∨ inB G (100 * (nx + 1)) 60 a) h h' from D.2)
    have n0 : ∀ j, j < 100 → (j < 2 ∨ 5 ≤ j) → ¬ (inB G 2 3 (Ad G j) ∨ inB G (100 * (nx + 1)) 60 (Ad G j)) := fun j hj hd => not_or.mpr ⟨nB ok (by omega) (by omega) (by omega), nB ok (by omega) (by omega) (by omega)⟩
    have key : ∀ c', RsW G h' c' f' d' → Dq G (.inr (.inl (w, dd, b, i))) ns h' := fun c' Rw => ⟨N, ns, np, no, ⟨isv, flt, c', nx, cn, f', d', F _ _ hst (n0 0 (by omega) (by omega)), F _ _ hm (n0 1 (by omega) (by omega)), H.fr F (fun j hj => not_or.mpr ⟨nB ok (by omega) (by omega) (by omega), nB ok (by omega) (by omega) (by omega)⟩), Rw, ⟨F _ _ i1 (n0 5 (by omega) (by omega)), F _ _ i2 (n0 6 (by omega) (by omega))⟩, hnx, hcn, ring F (fun i hi e j hj => not_or.mpr ⟨nB ok (by omega) (by omega) (by omega), nB ok (by omega) (by omega) (by omega)⟩), sz, g, F _ _ s1 (n0 7 (by omega) (by omega)), F _ _ s2 (n0 8 (by omega) (by omega))⟩, R, J, Nat.le_refl _, fun v M e => by cases e⟩
    by_cases hb : b = 0
    · exact key 1 (q1 hb)
    · exact key 2 (q2 hb).1
  · obtain ⟨⟨ns', np', no', H2⟩, HH2, F⟩ := (show (∃ ns' np' no', ShW G h' 1000 N' ns' np' no') ∧ HiW G h' ((nx + 1) % 9) (min (cn + 1) 8) ∧ Fr (fun a => a = Ad G 5 ∨ inB G 1000 60 a ∨ inB G (100 * (nx + 1)) 60 a) h h' from D.2)
    have n0 : ∀ j, j < 100 → j ≠ 5 → ¬ (Ad G j = Ad G 5 ∨ inB G 1000 60 (Ad G j) ∨ inB G (100 * (nx + 1)) 60 (Ad G j)) := fun j hj h5 => not_or.mpr ⟨nA ok (by omega) (by omega) h5, not_or.mpr ⟨nB ok (by omega) (by omega) (by omega), nB ok (by omega) (by omega) (by omega)⟩⟩
    obtain ⟨-, a1, a2, a3, RR⟩ := (show 0 ≤ v ∧ ∃ ns np no, RI N' ns np no from kp)
    have RR2 := RR.eq H2
    obtain ⟨b1, b2, b3, e1, e2, e3, l1, l2, l3, hle, JJ⟩ := (show ∃ ns' np' no', N' 2 = nI ns' ∧ N' 3 = nI np' ∧ N' 4 = nI no' ∧ ns' ≤ 12 ∧ np' ≤ 16 ∧ no' ≤ 8 ∧ ns ≤ ns' ∧ RJ N' ns' np' no' from kj)
    obtain ⟨-, -, -, -, -, g1, g2, g3, m1, m2, m3, -⟩ := id H2
    have x1 := nI_je (by omega) (by omega) (e1.symm.trans g1)
    have x2 := nI_je (by omega) (by omega) (e2.symm.trans g2)
    have x3 := nI_je (by omega) (by omega) (e3.symm.trans g3)
    subst x1; subst x2; subst x3
    exact ⟨N', b1, b2, b3, ⟨isv, flt, c, (nx + 1) % 9, min (cn + 1) 8, f, d, F _ _ hst (n0 0 (by omega) (by omega)), F _ _ hm (n0 1 (by omega) (by omega)), H2, ⟨F _ _ r1 (n0 2 (by omega) (by omega)), F _ _ r2 (n0 3 (by omega) (by omega)), F _ _ r3 (n0 4 (by omega) (by omega))⟩, HH2, Nat.mod_lt _ (by omega), Nat.min_le_right _ _, ring F (fun i hi e j hj => not_or.mpr ⟨nA ok (by omega) (by omega) (by omega), not_or.mpr ⟨nB ok (by omega) (by omega) (by omega), nB ok (by omega) (by omega) (by omega)⟩⟩), sz, g, F _ _ s1 (n0 7 (by omega) (by omega)), F _ _ s2 (n0 8 (by omega) (by omega))⟩, RR2, JJ, hle, fun v M e => by cases e; rfl⟩
theorem q_sheet {l : Launch} {G : Gl} {h : Hp} {N : Nat → Int32} {ns np no : Nat} (ok : Ok G) (C : Cs G h N ns np no) (R : RI N ns np no) (J : RJ N ns np no) (x y : Int32) : Ct l G mX11_sheet 6 0 0 [.ref (Ad G 0), .int x, .int y] h (fun w h' => (∃ v, w = some (.int v)) ∧ Dq G (pSheet N x y) ns h') := by
  obtain ⟨isv, flt, c, nx, cn, f, d, hst, hm, H, Rr, HH, hnx, hcn, HR, C7⟩ := C
  obtain ⟨M, ma, mb, me, HM⟩ := HR nx hnx
  have kp := kp_sheet R x y
  exact Ct.mono (ct_xsheet ok hst H Rr hm HH hnx hcn HM x y kp.ok) (fun w h' q => ⟨⟨_, q.1⟩, Cs.de ok hst hm H Rr HH hnx hcn HR C7 R J kp (kj_sheet R J x y) q.2⟩)
theorem q_raise {l : Launch} {G : Gl} {h : Hp} {N : Nat → Int32} {ns np no : Nat} (ok : Ok G) (C : Cs G h N ns np no) (R : RI N ns np no) (J : RJ N ns np no) (x y : Int32) : Ct l G mX11_raise 6 0 0 [.ref (Ad G 0), .int x, .int y] h (fun w h' => (∃ v, w = some (.int v)) ∧ Dq G (pRaise N x y) ns h') := by
  obtain ⟨isv, flt, c, nx, cn, f, d, hst, hm, H, Rr, HH, hnx, hcn, HR, C7⟩ := C
  obtain ⟨M, ma, mb, me, HM⟩ := HR nx hnx
  have kp := kp_raise R x y
  exact Ct.mono (ct_xraise ok hst H Rr hm HH hnx hcn HM x y kp.ok) (fun w h' q => ⟨⟨_, q.1⟩, Cs.de ok hst hm H Rr HH hnx hcn HR C7 R J kp (kj_raise R J x y) q.2⟩)
theorem q_planish {l : Launch} {G : Gl} {h : Hp} {N : Nat → Int32} {ns np no : Nat} (ok : Ok G) (C : Cs G h N ns np no) (R : RI N ns np no) (J : RJ N ns np no) (x y : Int32) : Ct l G mX11_planish 6 0 0 [.ref (Ad G 0), .int x, .int y] h (fun w h' => (∃ v, w = some (.int v)) ∧ Dq G (pHit N x y) ns h') := by
  obtain ⟨isv, flt, c, nx, cn, f, d, hst, hm, H, Rr, HH, hnx, hcn, HR, C7⟩ := C
  obtain ⟨M, ma, mb, me, HM⟩ := HR nx hnx
  have kp := kp_hit R x y
  exact Ct.mono (ct_xplanish ok hst H Rr hm HH hnx hcn HM x y kp.ok) (fun w h' q => ⟨⟨_, q.1⟩, Cs.de ok hst hm H Rr HH hnx hcn HR C7 R J kp (kj_hit R J x y) q.2⟩)
theorem q_bars {l : Launch} {G : Gl} {h : Hp} {N : Nat → Int32} {ns np no : Nat} (ok : Ok G) (C : Cs G h N ns np no) (R : RI N ns np no) (J : RJ N ns np no) (x : Int32) : Ct l G mX11_bars 6 0 0 [.ref (Ad G 0), .int x] h (fun w h' => (∃ v, w = some (.int v)) ∧ Dq G (pBars N x) ns h') := by
  obtain ⟨isv, flt, c, nx, cn, f, d, hst, hm, H, Rr, HH, hnx, hcn, HR, C7⟩ := C
  obtain ⟨M, ma, mb, me, HM⟩ := HR nx hnx
  have kp := kp_bars R x
  exact Ct.mono (ct_xbars ok hst H Rr hm HH hnx hcn HM x kp.ok) (fun w h' q => ⟨⟨_, q.1⟩, Cs.de ok hst hm H Rr HH hnx hcn HR C7 R J kp (kj_bars R J x) q.2⟩)
theorem q_tin {l : Launch} {G : Gl} {h : Hp} {N : Nat → Int32} {ns np no : Nat} (ok : Ok G) (C : Cs G h N ns np no) (R : RI N ns np no) (J : RJ N ns np no) (x y : Int32) : Ct l G mX11_tin 6 0 0 [.ref (Ad G 0), .int x, .int y] h (fun w h' => (∃ v, w = some (.int v)) ∧ Dq G (pTin N x y) ns h') := by
  obtain ⟨isv, flt, c, nx, cn, f, d, hst, hm, H, Rr, HH, hnx, hcn, HR, C7⟩ := C
  obtain ⟨M, ma, mb, me, HM⟩ := HR nx hnx
  have kp := kp_tin R x y
  exact Ct.mono (ct_xtin ok hst H Rr hm HH hnx hcn HM x y kp.ok) (fun w h' q => ⟨⟨_, q.1⟩, Cs.de ok hst hm H Rr HH hnx hcn HR C7 R J kp (kj_tin R J x y) q.2⟩)
theorem q_cook {l : Launch} {G : Gl} {h : Hp} {N : Nat → Int32} {ns np no : Nat} (ok : Ok G) (C : Cs G h N ns np no) (R : RI N ns np no) (J : RJ N ns np no) (x y : Int32) : Ct l G mX11_cook 6 0 0 [.ref (Ad G 0), .int x, .int y] h (fun w h' => (∃ v, w = some (.int v)) ∧ Dq G (pCook N x y) ns h') := by
  obtain ⟨isv, flt, c, nx, cn, f, d, hst, hm, H, Rr, HH, hnx, hcn, HR, C7⟩ := C
  obtain ⟨M, ma, mb, me, HM⟩ := HR nx hnx
  have kp := kp_cook R x y
  exact Ct.mono (ct_xcook ok hst H Rr hm HH hnx hcn HM R.1.2.2.2.2.2.2.1 x y kp.ok) (fun w h' q => ⟨⟨_, q.1⟩, Cs.de ok hst hm H Rr HH hnx hcn HR C7 R J kp (kj_cook R J x y) q.2⟩)
theorem q_baker {l : Launch} {G : Gl} {h : Hp} {N : Nat → Int32} {ns np no : Nat} (ok : Ok G) (C : Cs G h N ns np no) (R : RI N ns np no) (J : RJ N ns np no) (x y z : Int32) : Ct l G mX11_baker 6 0 0 [.ref (Ad G 0), .int x, .int y, .int z] h (fun w h' => (∃ v, w = some (.int v)) ∧ Dq G (pBaker N x y z) ns h') := by
  obtain ⟨isv, flt, c, nx, cn, f, d, hst, hm, H, Rr, HH, hnx, hcn, HR, C7⟩ := C
  obtain ⟨M, ma, mb, me, HM⟩ := HR nx hnx
  have kp := kp_baker R x y z
  exact Ct.mono (ct_xbaker ok hst H Rr hm HH hnx hcn HM x y z kp.ok) (fun w h' q => ⟨⟨_, q.1⟩, Cs.de ok hst hm H Rr HH hnx hcn HR C7 R J kp (kj_baker R J x y z) q.2⟩)
theorem q_sell {l : Launch} {G : Gl} {h : Hp} {N : Nat → Int32} {ns np no : Nat} (ok : Ok G) (C : Cs G h N ns np no) (R : RI N ns np no) (J : RJ N ns np no) (x y : Int32) : Ct l G mX11_sell 6 0 0 [.ref (Ad G 0), .int x, .int y] h (fun w h' => (∃ v, w = some (.int v)) ∧ Dq G (pSell N x y) ns h') := by
  obtain ⟨isv, flt, c, nx, cn, f, d, hst, hm, H, Rr, HH, hnx, hcn, HR, C7⟩ := C
  obtain ⟨M, ma, mb, me, HM⟩ := HR nx hnx
  have kp := kp_sell R x y
  exact Ct.mono (ct_xsell ok hst H Rr hm HH hnx hcn HM x y kp.ok) (fun w h' q => ⟨⟨_, q.1⟩, Cs.de ok hst hm H Rr HH hnx hcn HR C7 R J kp (kj_sell R J x y) q.2⟩)
/-- the class, with all that holds of its row, and a sheet at least -/
def S1 (G : Gl) (h : Hp) : Prop := ∃ (N : Nat → Int32) (ns np no : Nat), Cs G h N ns np no ∧ RI N ns np no ∧ RJ N ns np no ∧ 1 ≤ ns
theorem Dq.s1 {G : Gl} {o : Out} {ns : Nat} {h' : Hp} (D : Dq G o ns h') (h1 : 1 ≤ ns) : S1 G h' := by
  obtain ⟨N', ns', np', no', C, R, J, hle, -⟩ := D
  exact ⟨N', ns', np', no', C, R, J, by omega⟩
/-- the class as it begins, or with a sheet at least -/
def S0 (G : Gl) (h : Hp) : Prop := ∃ (N : Nat → Int32) (ns np no : Nat), Cs G h N ns np no ∧ RI N ns np no ∧ RJ N ns np no ∧ (1 ≤ ns ∨ (ns = 0 ∧ N 0 = 30))
theorem S1.s0 {G : Gl} {h : Hp} (S : S1 G h) : S0 G h := by
  obtain ⟨N, ns, np, no, C, R, J, h1⟩ := S
  exact ⟨N, ns, np, no, C, R, J, Or.inl h1⟩
theorem q_sheet0 {l : Launch} {G : Gl} {h : Hp} (ok : Ok G) (S : S0 G h) {a b : Nat} (ha : 1 ≤ a) (ha5 : a ≤ 5) (hb : 20 ≤ b) (hb6 : b ≤ 60) : Ct l G mX11_sheet 6 0 0 [.ref (Ad G 0), .int (nI a), .int (nI b)] h (fun w h' => (∃ v, w = some (.int v)) ∧ S1 G h') := by
  obtain ⟨N, ns, np, no, C, R, J, hs⟩ := S
  refine Ct.mono (q_sheet ok C R J (nI a) (nI b)) (fun w h' q => ⟨q.1, ?_⟩)
  have D := q.2
  rcases hs with h1 | ⟨h0, hc⟩
  · exact D.s1 h1
  · subst h0
    obtain ⟨N', ns', np', no', C', R', J', hle, hM⟩ := D
    have e2 := C.nn.1
    have c1 : ¬ (nI a < 1 ∨ 9 < nI a ∨ nI b < 10 ∨ 60 < nI b) := by
      rintro (z | z | z | z)
      · exact nI_nlt (a := a) (b := 1) ha (by omega) z
      · exact nI_nlt (a := 9) (b := a) (by omega) (by omega) z
      · exact nI_nlt (a := b) (b := 10) (by omega) (by omega) z
      · exact nI_nlt (a := 60) (b := b) (by omega) (by omega) z
    have c2 : ¬ N 2 = 12 := by rw [e2]; decide
    have c3 : ¬ N 0 < nI a := by rw [hc]; exact nI_nlt (a := 30) (b := a) (by omega) (by omega)
    have e : N' 2 = N 2 + 1 := by
      rw [hM _ _ (by unfold pSheet; rw [if_neg c1, if_neg c2, if_neg c3])]
      exact if_pos rfl
    have e3 : nI ns' = nI 1 := by rw [← C'.nn.1, e, e2]; rfl
    have b1 := C'.nn.2.2.2.1
    have := nI_je (by omega) (by omega) e3
    exact ⟨N', ns', np', no', C', R', J', by omega⟩
theorem q_ac2n {l : Launch} {G : Gl} {h : Hp} {N : Nat → Int32} {ns np no : Nat} (ok : Ok G) (C : Cs G h N ns np no) : CtR l G mX11_account 6 [.ref (Ad G 0), .int 2] h (some (.int (nI ns))) h := by
  rw [← C.nn.1]; exact q_ac2 ok C
theorem q_ac3n {l : Launch} {G : Gl} {h : Hp} {N : Nat → Int32} {ns np no : Nat} (ok : Ok G) (C : Cs G h N ns np no) : CtR l G mX11_account 6 [.ref (Ad G 0), .int 3] h (some (.int (nI np))) h := by
  rw [← C.nn.2.1]; exact q_ac3 ok C
theorem q_ac7n {l : Launch} {G : Gl} {h : Hp} {N : Nat → Int32} {ns np no : Nat} (ok : Ok G) (C : Cs G h N ns np no) : CtR l G mX11_account 6 [.ref (Ad G 0), .int 7] h (some (.int (nI no))) h := by
  rw [← C.nn.2.2.1]; exact q_ac7 ok C
theorem q_gfa {l : Launch} {G : Gl} {h : Hp} {N : Nat → Int32} {ns np no : Nat} (ok : Ok G) (C : Cs G h N ns np no) (x : Int32) : ∃ v : Int32, CtR l G mX11_goodFor 6 [.ref (Ad G 0), .int x] h (some (.int v)) h := by
  obtain ⟨-, -, e4, -, -, b4⟩ := C.nn
  by_cases hx : 0 ≤ x ∧ x < N 4
  · obtain ⟨i, hi, rfl⟩ := rg_of (x := x) (n := no) (by omega) (by rw [← e4]; exact hx)
    exact ⟨_, q_gf ok C hi⟩
  · exact ⟨_, q_gfo ok C hx⟩
theorem mx1_n {a b : Nat} (ha : a < 2 ^ 31) (hb : b < 2 ^ 31) : (if nI a < nI b then nI b else nI a) = nI (max a b) := by
  by_cases h : a < b
  · rw [if_pos (nI_lt h hb), Nat.max_eq_right (by omega)]
  · rw [if_neg (nI_nlt (by omega) ha), Nat.max_eq_left (by omega)]
