section PAIRS
variable {l : Launch} {G : Gl} {M1 M2 : MM}
theorem nTb {b lo : Nat} (s : Nat) (hs : s < 11) (e : lo = 100 * (s + 1)) (hb : ∀ i, nmU i → Ad G i ≠ b) : ¬ inB G lo 60 b := by
  rintro ⟨i, hi, ho, rfl⟩
  exact hb (lo + i) (by rw [e]; exact nmS hs (ho rfl)) rfl
theorem nTl {b lo n : Nat} (h : lo + n ≤ 15) (hb : ∀ i, nmU i → Ad G i ≠ b) : ¬ inB G lo n b := by
  rintro ⟨i, hi, ho, rfl⟩
  exact hb (lo + i) (nm0' (by omega)) rfl
theorem nI_je {a b : Nat} (ha : a < 2 ^ 31) (hb : b < 2 ^ 31) (h : nI a = nI b) : a = b := by
  have := congrArg kOf h
  rwa [kOf_nI ha, kOf_nI hb] at this
theorem RI.eq {h : Hp} {B : Nat} {N : Nat → Int32} {a b c a' b' c' : Nat} (R : RI N a b c) (H : ShW G h B N a' b' c') : RI N a' b' c' := by
  obtain ⟨-, -, -, -, -, c1, c2, c3, b1, b2, b3, -⟩ := H
  obtain ⟨d1, d2, d3, e1, e2, e3, -⟩ := id R.1
  have x1 := nI_je (by omega) (by omega) (d1.symm.trans c1)
  have x2 := nI_je (by omega) (by omega) (d2.symm.trans c2)
  have x3 := nI_je (by omega) (by omega) (d3.symm.trans c3)
  subst x1; subst x2; subst x3
  exact R
/-- the rows of the history behind a deed -/
def hfN (Bf Hf : Nat → Int32) (k : Nat) : Nat → Int32 := cpN Bf (if k = 8 then shN Hf 1596 else Hf) 0 (min k 7 * 228) 228
theorem row_n (Bf Hf : Nat → Int32) {k i : Nat} (hk : k ≤ 8) (hi : i < min (k + 1) 8) : (i = min k 7 ∧ ∀ q, q < 228 → hRow (hfN Bf Hf k) i q = Bf q) ∨ (k < 8 ∧ i < k ∧ ∀ q, q < 228 → hRow (hfN Bf Hf k) i q = hRow Hf i q) ∨ (k = 8 ∧ i < 7 ∧ ∀ q, q < 228 → hRow (hfN Bf Hf k) i q = hRow Hf (i + 1) q) := by
  by_cases h1 : i = min k 7
  · refine Or.inl ⟨h1, fun q hq => ?_⟩
    unfold hRow hfN cpN
    rw [if_pos (by omega)]
    exact congrArg Bf (by omega)
  · by_cases h8 : k = 8
    · refine Or.inr (Or.inr ⟨h8, by omega, fun q hq => ?_⟩)
      unfold hRow hfN cpN shN
      rw [if_neg (by omega), if_pos h8, if_pos (by omega)]
      exact congrArg Hf (by omega)
    · refine Or.inr (Or.inl ⟨by omega, by omega, fun q hq => ?_⟩)
      unfold hRow hfN cpN
      rw [if_neg (by omega), if_neg h8]
theorem DeP.A {h h' : Hp} {o : Out} {N : Nat → Int32} {ns np no nx k : Nat} (ok : Ok G) (hnx : nx < 9) (D : DeP G h o N ns np no nx k h') : Fr (nM G) h h' := by
  rcases o with z | (⟨w, dd, bb, ii⟩ | ⟨v, N'⟩)
  · exact Fr.mo (show Fr (inB G (100 * (nx + 1)) 60) h h' from D.2) (fun a z => inBM ok (by omega) (by omega) z)
  · exact Fr.mo (show Fr (fun a => inB G 2 3 a ∨ inB G (100 * (nx + 1)) 60 a) h h' from D.2.2) (fun a z => z.elim (inBM ok (by omega) (by omega)) (inBM ok (by omega) (by omega)))
  · exact Fr.mo (show Fr (fun a => a = Ad G 5 ∨ inB G 1000 60 a ∨ inB G (100 * (nx + 1)) 60 a) h h' from D.2.2.2) (fun a z => by
      rcases z with rfl | z | z
      · exact aM ok (by omega) (by omega)
      · exact inBM ok (by omega) (by omega) z
      · exact inBM ok (by omega) (by omega) z)
theorem Pair.deed (ok : Ok G) {args : List Value} {o : (Nat → Int32) → Out} (kp : ∀ N ns np no, RI N ns np no → Kp (o N))
    (k1 : ∀ (h : Hp) (N M : Nat → Int32) (ns np no ms mp mo c nx cn : Nat) (f d : Nat → Int32) (isv flt : Int32), h (Ad G 0) = some (eSt G isv flt) → ShW G h 1000 N ns np no → RsW G h c f d → h (Ad G 1) = some (.inr (9, [.ref (Ad G 1000), .ref (Ad G 2)])) → HiW G h nx cn → nx < 9 → cn ≤ 8 → ShW G h (100 * (nx + 1)) M ms mp mo → RI N ns np no → OutOk (o N) → Ct l G M1 10 0 0 (.ref (Ad G 0) :: args) h (fun w h' => w = some (.int (ansC (o N))) ∧ DeP G h (o N) N ns np no nx cn h'))
    (k2 : ∀ (h : Hp) (N Hf rs ds Sv tx ln : Nat → Int32) (k : Nat) (sv typ err lin : Int32) (ns np no : Nat), MdS G h N k Hf rs ds sv Sv typ tx err lin ln → k ≤ 8 → RI N ns np no → OutOk (o N) → Ct l G M2 8 0 0 (.ref (Ad G 20) :: args) h (fun w h' => w = some (.int (ansC (o N))) ∧ TopS (o N) G h' N k Hf rs ds sv Sv typ tx err lin ln ∧ Fr (inB G 20 12) h h')) : Pair l G M1 M2 args vI := by
  rintro h ⟨N, ns, np, no, nx, k, Hf, isv, flt, Sv, c, f, d, rs, ds, tx, lx, tv, lv, C, S, P⟩
  obtain ⟨hst, hm, H, Rr, HH, HR, HRr, HS, HC, ⟨cn0, a0, vf, ff, sf, s9, s11, s12, s13⟩, b, b2, T, T2, nb⟩ := id C
  obtain ⟨why, wha, beh, its, siz, att, wro, tol, Bf, cn, kd, nb_, e20, e21, e22, e23, e24, e25, e26, e27, e28, e29, e30, e31⟩ := id S
  obtain ⟨R, hnx, hk8, hrk, hrs, hflt, hc3, hrd, hr0, ⟨htA, ht60, htv⟩, hlA, hl60, hlv⟩ := id P
  obtain ⟨M, ma, mb, me, HM⟩ := HR nx hnx
  have K := kp N ns np no R
  refine ⟨_, fun h' => DeP G h (o N) N ns np no nx k h', 10, 8, 0, 0, by decide, by decide, Nat.zero_le _, Nat.zero_le _, vi, fun h' D => DeP.A ok hnx D, k1 h N M ns np no ma mb me c nx k f d isv flt hst H Rr hm HH hnx hk8 HM R K.ok, ?_⟩
  intro h' D
  have key : MdS G h' N k Hf rs ds isv Sv (nI tx.length) tv (if flt = -4 then -1 else flt) (nI lx.length) lv ∧ ∀ h'', TopS (o N) G h'' N k Hf rs ds isv Sv (nI tx.length) tv (if flt = -4 then -1 else flt) (nI lx.length) lv → Fr (inB G 20 12) h' h'' → Rel G h'' := by
    clear k1 k2
    generalize o N = q at K D
    have D1 : ShW G h' (100 * (nx + 1)) N ns np no := D.1
    rcases q with z | (⟨w, dd, bb, ii⟩ | ⟨v, N'⟩)
    · have F : Fr (inB G (100 * (nx + 1)) 60) h h' := D.2
      have nq : ∀ j, nmU j → ¬ (100 * (nx + 1) ≤ j ∧ j < 100 * (nx + 1) + 60) → ¬ inB G (100 * (nx + 1)) 60 (Ad G j) := fun j hj q => nB ok (by omega) hj.lt (by omega)
      refine ⟨S.fr F (fun j h1 h2 => nq j (nm2' h1 h2) (by omega)), fun h'' TS F2 => ?_⟩
      obtain ⟨N', eN, S2⟩ := (show ∃ N', (∀ q, q < 228 → N' q = N q) ∧ MdS G h'' N' k Hf rs ds isv Sv (nI tx.length) tv (if flt = -4 then -1 else flt) (nI lx.length) lv from TS)
      obtain ⟨u0, u1, us, ur, uh, ui, uk, uv, u7, u9, -⟩ := C.up (Q := fun j => 100 * (nx + 1) ≤ j ∧ j < 100 * (nx + 1) + 60) F nq
      have C2 : ClS G h' N' ns np no nx k Hf isv flt Sv c f d tx lx := ⟨u0 (by omega), u1 (by omega), (us (fun j hj => by omega)).cg eN, ur (by omega) (by omega) (by omega), uh (by omega) (by omega), fun i hi => if e : i = nx then (by rw [e]; exact ⟨N, ns, np, no, D1⟩) else ui i hi (fun j hj => by omega), fun i hi => uk i hi (fun j hj => by omega), uv (fun j hj => by omega), u7 (by omega) (by omega), u9 (by omega) (by omega) (by omega) (by omega), b, b2, T.fr F (nq 10 (nm0' (by omega)) (by omega)) (nTb nx (by omega) rfl T.ad), T2.fr F (nq 14 (nm0' (by omega)) (by omega)) (nTb nx (by omega) rfl T2.ad), nb⟩
      exact ⟨N', ns, np, no, nx, k, Hf, isv, flt, Sv, c, f, d, rs, ds, tx, lx, tv, lv, C2.fr ok F2, S2, R.cg eN, hnx, hk8, hrk, hrs, hflt, hc3, hrd, hr0, ⟨htA, ht60, htv⟩, hlA, hl60, hlv⟩
    · obtain ⟨⟨f', d', r1, r2, f0, d0⟩, F⟩ := (show (∃ f' d', (bb = 0 → RsW G h' 1 f' d') ∧ (¬ bb = 0 → RsW G h' 2 f' d' ∧ f' 1 = bb ∧ d' 1 = ii) ∧ f' 0 = w ∧ d' 0 = dd) ∧ Fr (fun a => inB G 2 3 a ∨ inB G (100 * (nx + 1)) 60 a) h h' from D.2)
      have kw : ¬ w = 0 := K
      have nq : ∀ j, nmU j → ¬ ((2 ≤ j ∧ j < 5) ∨ (100 * (nx + 1) ≤ j ∧ j < 100 * (nx + 1) + 60)) → ¬ (inB G 2 3 (Ad G j) ∨ inB G (100 * (nx + 1)) 60 (Ad G j)) := fun j hj q => not_or.mpr ⟨nB ok (by omega) hj.lt (by omega), nB ok (by omega) hj.lt (by omega)⟩
      refine ⟨S.fr F (fun j h1 h2 => nq j (nm2' h1 h2) (by omega)), fun h'' TS F2 => ?_⟩
      obtain ⟨N', i', eN, ei, S2⟩ := (show ∃ N' i', (∀ q, q < 228 → N' q = N q) ∧ (¬ bb = 0 → i' = ii) ∧ MdS G h'' N' k Hf (upd (upd (upd rs 0 w) 1 bb) 2 0) (upd (upd (upd ds 0 dd) 1 i') 2 0) isv Sv (nI tx.length) tv (if flt = -4 then -1 else flt) (nI lx.length) lv from TS)
      obtain ⟨u0, u1, us, ur, uh, ui, uk, uv, u7, u9, -⟩ := C.up (Q := fun j => (2 ≤ j ∧ j < 5) ∨ (100 * (nx + 1) ≤ j ∧ j < 100 * (nx + 1) + 60)) F nq
      have C2 : ∀ c', RsW G h' c' f' d' → ClS G h' N' ns np no nx k Hf isv flt Sv c' f' d' tx lx := fun c' Rw => ⟨u0 (by omega), u1 (by omega), (us (fun j hj => by omega)).cg eN, Rw, uh (by omega) (by omega), fun i hi => if e : i = nx then (by rw [e]; exact ⟨N, ns, np, no, D1⟩) else ui i hi (fun j hj => by omega), fun i hi => uk i hi (fun j hj => by omega), uv (fun j hj => by omega), u7 (by omega) (by omega), u9 (by omega) (by omega) (by omega) (by omega), b, b2, T.fr F (nq 10 (nm0' (by omega)) (by omega)) (not_or.mpr ⟨nTl (by omega) T.ad, nTb nx (by omega) rfl T.ad⟩), T2.fr F (nq 14 (nm0' (by omega)) (by omega)) (not_or.mpr ⟨nTl (by omega) T2.ad, nTb nx (by omega) rfl T2.ad⟩), nb⟩
      by_cases hb0 : bb = 0
      · refine ⟨N', ns, np, no, nx, k, Hf, isv, flt, Sv, 1, f', d', _, _, tx, lx, tv, lv, (C2 1 (r1 hb0)).fr ok F2, S2, R.cg eN, hnx, hk8, hrk, hrs, hflt, by omega, fun i hi => ?_, fun i h1 h2 => ?_, ⟨htA, ht60, htv⟩, hlA, hl60, hlv⟩
        · obtain rfl : i = 0 := by omega
          exact ⟨(show w = f' 0 from f0.symm), (show dd = d' 0 from d0.symm), by rw [f0]; exact kw⟩
        · rcases (show i = 1 ∨ i = 2 by omega) with rfl | rfl
          · exact hb0
          · rfl
      · obtain ⟨r2, f1, d1⟩ := r2 hb0
        refine ⟨N', ns, np, no, nx, k, Hf, isv, flt, Sv, 2, f', d', _, _, tx, lx, tv, lv, (C2 2 r2).fr ok F2, S2, R.cg eN, hnx, hk8, hrk, hrs, hflt, by omega, fun i hi => ?_, fun i h1 h2 => ?_, ⟨htA, ht60, htv⟩, hlA, hl60, hlv⟩
        · rcases (show i = 0 ∨ i = 1 by omega) with rfl | rfl
          · exact ⟨(show w = f' 0 from f0.symm), (show dd = d' 0 from d0.symm), by rw [f0]; exact kw⟩
          · exact ⟨(show bb = f' 1 from f1.symm), (show i' = d' 1 from (ei hb0).trans d1.symm), by rw [f1]; exact hb0⟩
        · obtain rfl : i = 2 := by omega
          rfl
    · obtain ⟨⟨ns', np', no', H'⟩, HH', F⟩ := (show (∃ ns' np' no', ShW G h' 1000 N' ns' np' no') ∧ HiW G h' ((nx + 1) % 9) (min (k + 1) 8) ∧ Fr (fun a => a = Ad G 5 ∨ inB G 1000 60 a ∨ inB G (100 * (nx + 1)) 60 a) h h' from D.2)
      obtain ⟨-, e1, e2, e3, RN⟩ := (show 0 ≤ v ∧ ∃ ns np no, RI N' ns np no from K)
      have R' := RN.eq H'
      have nq : ∀ j, nmU j → ¬ (j = 5 ∨ (1000 ≤ j ∧ j < 1060) ∨ (100 * (nx + 1) ≤ j ∧ j < 100 * (nx + 1) + 60)) → ¬ (Ad G j = Ad G 5 ∨ inB G 1000 60 (Ad G j) ∨ inB G (100 * (nx + 1)) 60 (Ad G j)) := fun j hj q => not_or.mpr ⟨nA ok hj.lt (by omega) (by omega), not_or.mpr ⟨nB ok (by omega) hj.lt (by omega), nB ok (by omega) hj.lt (by omega)⟩⟩
      have nTT : ∀ {b : Nat}, (∀ i, nmU i → Ad G i ≠ b) → ¬ (b = Ad G 5 ∨ inB G 1000 60 b ∨ inB G (100 * (nx + 1)) 60 b) := fun hb => not_or.mpr ⟨fun z => hb 5 (nm0' (by omega)) z.symm, not_or.mpr ⟨nTb 9 (by omega) rfl hb, nTb nx (by omega) rfl hb⟩⟩
      refine ⟨S.fr F (fun j h1 h2 => nq j (nm2' h1 h2) (by omega)), fun h'' TS F2 => ?_⟩
      obtain ⟨Bf', eB, S2⟩ := (show ∃ Bf, (∀ q, q < 228 → Bf q = N q) ∧ MdS G h'' N' (min (k + 1) 8) (hfN Bf Hf k) rs ds isv Sv (nI tx.length) tv (if flt = -4 then -1 else flt) (nI lx.length) lv from TS)
      obtain ⟨u0, u1, us, ur, uh, ui, uk, uv, u7, u9, -⟩ := C.up (Q := fun j => j = 5 ∨ (1000 ≤ j ∧ j < 1060) ∨ (100 * (nx + 1) ≤ j ∧ j < 100 * (nx + 1) + 60)) F nq
      have rows : ∀ i, i < min (k + 1) 8 → (∃ a b e, ShW G h' (100 * (((nx + 1) % 9 + 9 - min (k + 1) 8 + i) % 9 + 1)) (hRow (hfN Bf' Hf k) i) a b e) ∧ ∃ a b e, RI (hRow (hfN Bf' Hf k) i) a b e := fun i hi => by
        rcases row_n Bf' Hf hk8 hi with ⟨e, er⟩ | ⟨a1, a2, er⟩ | ⟨a1, a2, er⟩
        · have es : ((nx + 1) % 9 + 9 - min (k + 1) 8 + i) % 9 = nx := by omega
          rw [es]
          exact ⟨⟨ns, np, no, D1.cg (fun q hq => (er q hq).trans (eB q hq))⟩, ns, np, no, R.cg (fun q hq => (er q hq).trans (eB q hq))⟩
        · have es : ((nx + 1) % 9 + 9 - min (k + 1) 8 + i) % 9 = (nx + 9 - k + i) % 9 := by omega
          rw [es]
          obtain ⟨a, b, e, W⟩ := uk i a2 (fun j hj => by omega)
          obtain ⟨a', b', e', W'⟩ := hrk i a2
          exact ⟨⟨a, b, e, W.cg er⟩, a', b', e', W'.cg er⟩
        · have es : ((nx + 1) % 9 + 9 - min (k + 1) 8 + i) % 9 = (nx + 9 - k + (i + 1)) % 9 := by omega
          rw [es]
          obtain ⟨a, b, e, W⟩ := uk (i + 1) (by omega) (fun j hj => by omega)
          obtain ⟨a', b', e', W'⟩ := hrk (i + 1) (by omega)
          exact ⟨⟨a, b, e, W.cg er⟩, a', b', e', W'.cg er⟩
      have C2 : ClS G h' N' ns' np' no' ((nx + 1) % 9) (min (k + 1) 8) (hfN Bf' Hf k) isv flt Sv c f d tx lx := ⟨u0 (by omega), u1 (by omega), H', ur (by omega) (by omega) (by omega), HH', fun i hi => if e : i = nx then (by rw [e]; exact ⟨N, ns, np, no, D1⟩) else ui i hi (fun j hj => by omega), fun i hi => (rows i hi).1, uv (fun j hj => by omega), u7 (by omega) (by omega), u9 (by omega) (by omega) (by omega) (by omega), b, b2, T.fr F (nq 10 (nm0' (by omega)) (by omega)) (nTT T.ad), T2.fr F (nq 14 (nm0' (by omega)) (by omega)) (nTT T2.ad), nb⟩
      exact ⟨N', ns', np', no', (nx + 1) % 9, min (k + 1) 8, hfN Bf' Hf k, isv, flt, Sv, c, f, d, rs, ds, tx, lx, tv, lv, C2.fr ok F2, S2, R', by omega, by omega, fun i hi => (rows i hi).2, hrs, hflt, hc3, hrd, hr0, ⟨htA, ht60, htv⟩, hlA, hl60, hlv⟩
  exact Ct.mono (k2 h' N Hf rs ds Sv tv lv k isv _ _ _ ns np no key.1 hk8 R K.ok) (fun w h'' q => ⟨q.1, key.2 h'' q.2.1 q.2.2, q.2.2.mA ok⟩)
theorem pr_sheet (ok : Ok G) (x y : Int32) : Pair l G mX11_sheet mX12_sheet [.int x, .int y] vI := Pair.deed ok (o := fun N => pSheet N x y) (fun N ns np no R => kp_sheet R x y) (fun h N M ns np no ms mp mo c nx cn f d isv flt a1 a2 a3 a4 a5 a6 a7 a8 R hok => ct_xsheet ok a1 a2 a3 a4 a5 a6 a7 a8 x y hok) (fun h N Hf rs ds Sv tx ln k sv typ err lin ns np no S hk R hok => ct_X12_sheet ok S hk R.1 x y hok)
theorem pr_raise (ok : Ok G) (x y : Int32) : Pair l G mX11_raise mX12_raise [.int x, .int y] vI := Pair.deed ok (o := fun N => pRaise N x y) (fun N ns np no R => kp_raise R x y) (fun h N M ns np no ms mp mo c nx cn f d isv flt a1 a2 a3 a4 a5 a6 a7 a8 R hok => ct_xraise ok a1 a2 a3 a4 a5 a6 a7 a8 x y hok) (fun h N Hf rs ds Sv tx ln k sv typ err lin ns np no S hk R hok => ct_X12_raise ok S hk R.1 x y hok)
theorem pr_planish (ok : Ok G) (x y : Int32) : Pair l G mX11_planish mX12_planish [.int x, .int y] vI := Pair.deed ok (o := fun N => pHit N x y) (fun N ns np no R => kp_hit R x y) (fun h N M ns np no ms mp mo c nx cn f d isv flt a1 a2 a3 a4 a5 a6 a7 a8 R hok => ct_xplanish ok a1 a2 a3 a4 a5 a6 a7 a8 x y hok) (fun h N Hf rs ds Sv tx ln k sv typ err lin ns np no S hk R hok => ct_X12_planish ok S hk R.1 x y hok)
theorem pr_bars (ok : Ok G) (x : Int32) : Pair l G mX11_bars mX12_bars [.int x] vI := Pair.deed ok (o := fun N => pBars N x) (fun N ns np no R => kp_bars R x) (fun h N M ns np no ms mp mo c nx cn f d isv flt a1 a2 a3 a4 a5 a6 a7 a8 R hok => ct_xbars ok a1 a2 a3 a4 a5 a6 a7 a8 x hok) (fun h N Hf rs ds Sv tx ln k sv typ err lin ns np no S hk R hok => ct_X12_bars ok S hk x hok)
theorem pr_tin (ok : Ok G) (x y : Int32) : Pair l G mX11_tin mX12_tin [.int x, .int y] vI := Pair.deed ok (o := fun N => pTin N x y) (fun N ns np no R => kp_tin R x y) (fun h N M ns np no ms mp mo c nx cn f d isv flt a1 a2 a3 a4 a5 a6 a7 a8 R hok => ct_xtin ok a1 a2 a3 a4 a5 a6 a7 a8 x y hok) (fun h N Hf rs ds Sv tx ln k sv typ err lin ns np no S hk R hok => ct_X12_tin ok S hk R.1 x y hok)
theorem pr_cook (ok : Ok G) (x y : Int32) : Pair l G mX11_cook mX12_cook [.int x, .int y] vI := Pair.deed ok (o := fun N => pCook N x y) (fun N ns np no R => kp_cook R x y) (fun h N M ns np no ms mp mo c nx cn f d isv flt a1 a2 a3 a4 a5 a6 a7 a8 R hok => ct_xcook ok a1 a2 a3 a4 a5 a6 a7 a8 R.P x y hok) (fun h N Hf rs ds Sv tx ln k sv typ err lin ns np no S hk R hok => ct_X12_cook ok S hk R.1 x y hok)
theorem pr_baker (ok : Ok G) (x y z : Int32) : Pair l G mX11_baker mX12_baker [.int x, .int y, .int z] vI := Pair.deed ok (o := fun N => pBaker N x y z) (fun N ns np no R => kp_baker R x y z) (fun h N M ns np no ms mp mo c nx cn f d isv flt a1 a2 a3 a4 a5 a6 a7 a8 R hok => ct_xbaker ok a1 a2 a3 a4 a5 a6 a7 a8 x y z hok) (fun h N Hf rs ds Sv tx ln k sv typ err lin ns np no S hk R hok => ct_X12_baker ok S hk R.1 x y z hok)
theorem pr_sell (ok : Ok G) (x y : Int32) : Pair l G mX11_sell mX12_sell [.int x, .int y] vI := Pair.deed ok (o := fun N => pSell N x y) (fun N ns np no R => kp_sell R x y) (fun h N M ns np no ms mp mo c nx cn f d isv flt a1 a2 a3 a4 a5 a6 a7 a8 R hok => ct_xsell ok a1 a2 a3 a4 a5 a6 a7 a8 x y hok) (fun h N Hf rs ds Sv tx ln k sv typ err lin ns np no S hk R hok => ct_X12_sell ok S hk R.1 x y hok)
end PAIRS
