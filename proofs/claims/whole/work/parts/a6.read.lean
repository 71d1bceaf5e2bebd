section PAIRS
variable {l : Launch} {G : Gl} {h h' : Hp}
theorem Txt.v {tx : List Int32} : ∀ (cs : CmL) (a : Nat), Txt tx a cs → ∀ c, c ∈ cs → c.1 < 6
  | [], _, h => absurd h id
  | c :: r, a, h => by
    obtain ⟨a', C, h⟩ := h
    intro c' hc'
    rcases List.mem_cons.mp hc' with rfl | hr
    · exact C.1
    · rcases h with ⟨rfl, -⟩ | ⟨-, -, T⟩
      · cases hr
      · exact Txt.v r (a' + 1) T c' hr
theorem Flt.p {tx : List Int32} {a p : Nat} (h : Flt tx a p) : p ≤ a + 10 := by
  have w : ∀ v, v < 6 → wl v ≤ 5 := fun v hv => (wl_t v hv).2.2.2.1
  rcases h with ⟨-, e⟩ | ⟨v, j, hv, -, hj, -, -, e⟩ | ⟨v, hv, -, -, e⟩ | ⟨v, hv, -, -, -, e⟩ | ⟨v, n, hv, -, -, -, D, -, e⟩ | ⟨v, n, hv, -, -, -, D, -, -, e⟩
  · omega
  · have := w v hv; omega
  · have := w v hv; omega
  · have := w v hv; omega
  · have := w v (by omega); have := D.1; omega
  · have := w v (by omega); have := D.1; omega
theorem TxF.p {tx : List Int32} {p : Nat} : ∀ (k a : Nat), TxF tx p a k → a ≤ tx.length → p < tx.length + 20
  | 0, a, h, ha => by
    rcases h with F | ⟨v, f, s, C, -, -⟩
    · have := Flt.p F; omega
    · have := C.le; omega
  | k + 1, a, h, ha => by
    obtain ⟨v, f, s, a', C, q, F⟩ := h
    exact TxF.p k (a' + 1) F (by have := C.le; have := q.1; omega)
/-- every run goes to its end, or is refused at a command -/
theorem run_or : ∀ (cs : CmL) (N : Nat → Int32) (ns np no : Nat), RI N ns np no → (∀ c, c ∈ cs → c.1 < 6) → (∃ N' a b e, RunY N cs N' ∧ RI N' a b e) ∨ ∃ o k, RunN o N cs k ∧ Kp o
  | [], N, ns, np, no, R, _ => Or.inl ⟨N, ns, np, no, rfl, R⟩
  | c :: r, N, ns, np, no, R, hc => by
    have K := kp_do R c
    have c6 := hc c (List.mem_cons_self ..)
    rcases e : pDo N c with z | (⟨w, dd, b, i⟩ | ⟨v, N1⟩)
    · rw [e] at K
      exact Or.inr ⟨_, 0, ⟨c6, ns, np, no, R.1, e, K.ok, fun q z => by cases z⟩, K⟩
    · rw [e] at K
      exact Or.inr ⟨_, 0, ⟨c6, ns, np, no, R.1, e, K.ok, fun q z => by cases z⟩, K⟩
    · rw [e] at K
      obtain ⟨hv, n1, n2, n3, R1⟩ := (show 0 ≤ v ∧ ∃ ns np no, RI N1 ns np no from K)
      rcases run_or r N1 n1 n2 n3 R1 (fun c' h => hc c' (List.mem_cons_of_mem _ h)) with ⟨N', a, b, e', hr, R'⟩ | ⟨o, k, hr, Ko⟩
      · exact Or.inl ⟨N', a, b, e', ⟨c6, ns, np, no, v, N1, R.1, e, hv, hr⟩, R'⟩
      · exact Or.inr ⟨o, k + 1, ⟨c6, ns, np, no, v, N1, R.1, e, hv, hr⟩, Ko⟩
/-- the reasons behind a refused text, on both sides -/
theorem rs_ok {o : Out} {c' : Nat} {f' d' : Nat → Int32} {r why wha beh its kk : Int32} {N2 : Nat → Int32} (K : Kp o) (h1 : RsO o c' f' d') (h2 : DeedR o r why wha beh its N2) (f0 : f' 0 = 14) (d0 : d' 0 = kk) (rs ds : Nat → Int32) : c' ≤ 3 ∧ (∀ i, i < c' → (upd (upd (upd rs 0 14) 1 why) 2 beh) i = f' i ∧ (upd (upd (upd ds 0 kk) 1 wha) 2 its) i = d' i ∧ ¬ f' i = 0) ∧ ∀ i, c' ≤ i → i < 3 → (upd (upd (upd rs 0 14) 1 why) 2 beh) i = 0 := by
  have u0 : ∀ (g : Nat → Int32) (x y z : Int32), (upd (upd (upd g 0 x) 1 y) 2 z) 0 = x ∧ (upd (upd (upd g 0 x) 1 y) 2 z) 1 = y ∧ (upd (upd (upd g 0 x) 1 y) 2 z) 2 = z := fun g x y z => ⟨rfl, rfl, rfl⟩
  have n14 : ¬ f' 0 = 0 := by rw [f0]; decide
  obtain ⟨a0, a1, a2⟩ := u0 rs 14 why beh
  obtain ⟨b0, b1, b2⟩ := u0 ds kk wha its
  rcases o with z | (⟨w, dd, b, i⟩ | q)
  · obtain ⟨-, e1, e2⟩ := (show r = z ∧ why = 0 ∧ beh = 0 from h2)
    obtain rfl : c' = 1 := h1
    refine ⟨by omega, fun i hi => ?_, fun i h1 h2 => ?_⟩
    · obtain rfl : i = 0 := by omega
      exact ⟨a0.trans f0.symm, b0.trans d0.symm, n14⟩
    · rcases (show i = 1 ∨ i = 2 by omega) with rfl | rfl
      · exact a1.trans e1
      · exact a2.trans e2
  · obtain ⟨e1, e2, e3, e4⟩ := (show why = w ∧ wha = dd ∧ beh = b ∧ (¬ b = 0 → its = i) from h2)
    obtain ⟨g1, g2, g3, g4⟩ := (show f' 1 = w ∧ d' 1 = dd ∧ (b = 0 → c' = 2) ∧ (¬ b = 0 → c' = 3 ∧ f' 2 = b ∧ d' 2 = i) from h1)
    have kw : ¬ w = 0 := K
    have n1 : ¬ f' 1 = 0 := by rw [g1]; exact kw
    by_cases hb : b = 0
    · obtain rfl := g3 hb
      refine ⟨by omega, fun i hi => ?_, fun i h1 h2 => ?_⟩
      · rcases (show i = 0 ∨ i = 1 by omega) with rfl | rfl
        · exact ⟨a0.trans f0.symm, b0.trans d0.symm, n14⟩
        · exact ⟨a1.trans (e1.trans g1.symm), b1.trans (e2.trans g2.symm), n1⟩
      · obtain rfl : i = 2 := by omega
        exact a2.trans (e3.trans hb)
    · obtain ⟨rfl, g5, g6⟩ := g4 hb
      refine ⟨by omega, fun i hi => ?_, fun i h1 h2 => by omega⟩
      rcases (show i = 0 ∨ i = 1 ∨ i = 2 by omega) with rfl | rfl | rfl
      · exact ⟨a0.trans f0.symm, b0.trans d0.symm, n14⟩
      · exact ⟨a1.trans (e1.trans g1.symm), b1.trans (e2.trans g2.symm), n1⟩
      · exact ⟨a2.trans (e3.trans g5.symm), b2.trans ((e4 hb).trans g6.symm), by rw [g5]; exact hb⟩
  · exact absurd h1 id
/-- the ring's rows behind one more -/
theorem rows_n {nx k ns np no : Nat} {Bf N Hf : Nat → Int32} (hnx : nx < 9) (hk8 : k ≤ 8) (eB : ∀ q, q < 228 → Bf q = N q) (R : RI N ns np no) (D1 : ShW G h (100 * (nx + 1)) N ns np no) (hrk : ∀ i, i < k → ∃ a b e, RI (hRow Hf i) a b e) (uk : ∀ i, i < k → ∃ a b e, ShW G h (100 * ((nx + 9 - k + i) % 9 + 1)) (hRow Hf i) a b e) :
    ∀ i, i < min (k + 1) 8 → (∃ a b e, ShW G h (100 * (((nx + 1) % 9 + 9 - min (k + 1) 8 + i) % 9 + 1)) (hRow (hfN Bf Hf k) i) a b e) ∧ ∃ a b e, RI (hRow (hfN Bf Hf k) i) a b e := fun i hi => by
  rcases row_n Bf Hf hk8 hi with ⟨e, er⟩ | ⟨a1, a2, er⟩ | ⟨a1, a2, er⟩
  · have es : ((nx + 1) % 9 + 9 - min (k + 1) 8 + i) % 9 = nx := by omega
    rw [es]
    exact ⟨⟨ns, np, no, D1.cg (fun q hq => (er q hq).trans (eB q hq))⟩, ns, np, no, R.cg (fun q hq => (er q hq).trans (eB q hq))⟩
  · have es : ((nx + 1) % 9 + 9 - min (k + 1) 8 + i) % 9 = (nx + 9 - k + i) % 9 := by omega
    rw [es]
    obtain ⟨a, b, e, W⟩ := uk i a2
    obtain ⟨a', b', e', W'⟩ := hrk i a2
    exact ⟨⟨a, b, e, W.cg er⟩, a', b', e', W'.cg er⟩
  · have es : ((nx + 1) % 9 + 9 - min (k + 1) 8 + i) % 9 = (nx + 9 - k + (i + 1)) % 9 := by omega
    rw [es]
    obtain ⟨a, b, e, W⟩ := uk (i + 1) (by omega)
    obtain ⟨a', b', e', W'⟩ := hrk (i + 1) (by omega)
    exact ⟨⟨a, b, e, W.cg er⟩, a', b', e', W'.cg er⟩
set_option maxRecDepth 100000 in
theorem pr_read (ok : Ok G) : Pair l G mX11_read mX12_read [] vI := by
  rintro h ⟨N, ns, np, no, nx, k, Hf, isv, flt, Sv, c, f, d, rs, ds, tx, lx, tv, lv, C, S, P⟩
  obtain ⟨hst, hm, H, Rr, HH, HR, HRr, HS, HC, ⟨cn0, a0, vf, ff, sf, s9, s11, s12, s13⟩, b, b2, T, T2, nb⟩ := id C
  obtain ⟨why, wha, beh, its, siz, att, wro, tol, Bf, cn, kd, nb_, e20, e21, e22, e23, e24, e25, e26, e27, e28, e29, e30, e31⟩ := id S
  obtain ⟨R, hnx, hk8, hrk, hrs, hflt, hc3, hrd, hr0, ⟨htA, ht60, htv⟩, hlA, hl60, hlv⟩ := id P
  obtain ⟨M0, ma, mb, me, HM⟩ := HR nx hnx
  have eN : ([] : List Int32).length = 0 := rfl
  have e0 : nI 0 = 0 := rfl
  rcases txt_or tx (tx.length + 1) 0 (by omega) (by omega) with ⟨cs, Tx⟩ | ⟨kk, p, TF⟩
  · rcases run_or cs N ns np no R (Txt.v cs 0 Tx) with ⟨N', a', b', e', hr, R'⟩ | ⟨o, K0, hr, Ko⟩
    · refine ⟨_, fun h' => (∃ ns np no, ShW G h' 1000 N' ns np no) ∧ ShW G h' (100 * (nx + 1)) N ns np no ∧ HiW G h' ((nx + 1) % 9) (min (k + 1) 8) ∧ (∃ (vf : Nat → Option Nat) (ff sf : Nat → Int32) (cn at' : Nat), h' (Ad G 9) = some (eSc G (nI cn) (nI at')) ∧ h' (Ad G 11) = some (eR G 7 10 vf) ∧ h' (Ad G 12) = some (eI G 10 ff) ∧ h' (Ad G 13) = some (eI G 10 sf)) ∧ SBT G h' (Ad G 10) [] b ∧ Fr (fun x => x = Ad G 5 ∨ inB G 1000 60 x ∨ inB G (100 * (nx + 1)) 60 x ∨ x = Ad G 10 ∨ x = Ad G 9 ∨ x = Ad G 11 ∨ x = Ad G 12 ∨ x = Ad G 13) h h', 13, 12, 0, 0, by decide, by decide, Nat.zero_le _, Nat.zero_le _, vi, fun h' D => D.2.2.2.2.2.mo (fun a z => by
        rcases z with rfl | z | z | rfl | rfl | rfl | rfl | rfl
        · exact aM ok (by omega) (by omega)
        · exact inBM ok (by omega) (by omega) z
        · exact inBM ok (by omega) (by omega) z
        all_goals exact aM ok (by omega) (by omega)), ct_xread_y ok hst s9 s11 s12 s13 htA ht60 T.ad T hm H Rr HH hnx hk8 HM Tx hr, ?_⟩
      rintro h' ⟨⟨n1, n2', n3, H'⟩, D1, HH', ⟨vf', ff', sf', cn1, at1, z9, z11, z12, z13⟩, T', F⟩
      have nq : ∀ j, nmU j → ¬ (j = 5 ∨ (1000 ≤ j ∧ j < 1060) ∨ (100 * (nx + 1) ≤ j ∧ j < 100 * (nx + 1) + 60) ∨ j = 10 ∨ j = 9 ∨ j = 11 ∨ j = 12 ∨ j = 13) → ¬ (Ad G j = Ad G 5 ∨ inB G 1000 60 (Ad G j) ∨ inB G (100 * (nx + 1)) 60 (Ad G j) ∨ Ad G j = Ad G 10 ∨ Ad G j = Ad G 9 ∨ Ad G j = Ad G 11 ∨ Ad G j = Ad G 12 ∨ Ad G j = Ad G 13) := fun j hj q => not_or.mpr ⟨nA ok hj.lt (by omega) (by omega), not_or.mpr ⟨nB ok (by omega) hj.lt (by omega), not_or.mpr ⟨nB ok (by omega) hj.lt (by omega), not_or.mpr ⟨nA ok hj.lt (by omega) (by omega), not_or.mpr ⟨nA ok hj.lt (by omega) (by omega), not_or.mpr ⟨nA ok hj.lt (by omega) (by omega), not_or.mpr ⟨nA ok hj.lt (by omega) (by omega), nA ok hj.lt (by omega) (by omega)⟩⟩⟩⟩⟩⟩⟩
      have S1 := S.fr F (fun j h1 h2 => nq j (nm2' h1 h2) (by omega))
      obtain ⟨u0, u1, us, ur, uh, ui, uk, uv, u7, u9, -⟩ := C.up (Q := fun j => j = 5 ∨ (1000 ≤ j ∧ j < 1060) ∨ (100 * (nx + 1) ≤ j ∧ j < 100 * (nx + 1) + 60) ∨ j = 10 ∨ j = 9 ∨ j = 11 ∨ j = 12 ∨ j = 13) F nq
      obtain ⟨why', wha', beh', its', siz', att', wro', tol', Bf', cn', kd', nb', f20, f21, f22, f23, f24, f25, f26, f27, f28, f29, f30, f31⟩ := id S1
      have rows := rows_n (h := h') hnx hk8 (cp_e N Bf') R D1 hrk (fun i hi => uk i hi (fun j hj => by omega))
      have C2 : ClS G h' N' n1 n2' n3 ((nx + 1) % 9) (min (k + 1) 8) (hfN (cpN N Bf' 0 0 228) Hf k) isv flt Sv c f d [] lx := ⟨u0 (by omega), u1 (by omega), H', ur (by omega) (by omega) (by omega), HH', fun i hi => if e : i = nx then (by rw [e]; exact ⟨N, ns, np, no, D1⟩) else ui i hi (fun j hj => by omega), fun i hi => (rows i hi).1, uv (fun j hj => by omega), u7 (by omega) (by omega), ⟨cn1, at1, vf', ff', sf', z9, z11, z12, z13⟩, b, b2, T', T2.fr F (nq 14 (nm0' (by omega)) (by omega)) (not_or.mpr ⟨fun z => T2.ad 5 (nm0' (by omega)) z.symm, not_or.mpr ⟨nTb 9 (by omega) rfl T2.ad, not_or.mpr ⟨nTb nx (by omega) rfl T2.ad, not_or.mpr ⟨fun z => T2.ad 10 (nm0' (by omega)) z.symm, not_or.mpr ⟨fun z => T2.ad 9 (nm0' (by omega)) z.symm, not_or.mpr ⟨fun z => T2.ad 11 (nm0' (by omega)) z.symm, not_or.mpr ⟨fun z => T2.ad 12 (nm0' (by omega)) z.symm, fun z => T2.ad 13 (nm0' (by omega)) z.symm⟩⟩⟩⟩⟩⟩⟩), nb⟩
      have M := ct_mread_y (l := l) (h := h') (sv := isv) (err := if flt = -4 then -1 else flt) (lin := nI lx.length) (why := why') (wha := wha') (beh := beh') (its := its') (siz := siz') (att := att') (wro := wro') (tol := tol') (N := N) ok f27 htv ht60 f30 f31 f22 f24 f25 f26 hk8 Tx hr
      rw [mH_id f20 f21] at M
      refine Ct.mono M (fun w h'' q => ⟨q.1, ?_⟩)
      obtain ⟨kd2, nb2, att2, wha2, its2, e⟩ := q.2
      obtain ⟨g20, g21, gg⟩ := mH_cs (h := hset (hset (hset (hset h' (Ad G 30) (eI G 16 kd2)) (Ad G 31) (eI G 32 nb2)) (Ad G 22) (eI G 228 (cpN N Bf' 0 0 228))) (Ad G 24) (eI G 1824 (cpN (cpN N Bf' 0 0 228) (if k = 8 then shN Hf 1596 else Hf) 0 (min k 7 * 228) 228))) ok (e := eMd G isv (nI (min (k + 1) 8)) 0 (if flt = -4 then -1 else flt) (nI lx.length) 0 wha2 0 its2 (nI tx.length) att2 (-1) (nI cs.length)) (N := N')
      rw [← e] at g20 g21 gg
      have F2 : Fr (inB G 20 12) h' h'' := by rw [e]; exact mH_fr ((((Fr.rf.st (inM (by omega) (by omega))).st (inM (by omega) (by omega))).st (inM (by omega) (by omega))).st (inM (by omega) (by omega)))
      have n2 : ∀ i, 21 < i → i < 32 → ¬ (i = 30 ∨ i = 31 ∨ i = 22 ∨ i = 24) → ∀ y, h' (Ad G i) = some y → h'' (Ad G i) = some y := fun i h1 h2 a3 y e => gg i (by omega) (by omega) (by omega) y (hget_n (nA ok (by omega) (by omega) (by omega)) (hget_n (nA ok (by omega) (by omega) (by omega)) (hget_n (nA ok (by omega) (by omega) (by omega)) (hget_n (nA ok (by omega) (by omega) (by omega)) e))))
      refine ⟨?_, F2.mA ok⟩
      exact ⟨N', n1, n2', n3, (nx + 1) % 9, min (k + 1) 8, hfN (cpN N Bf' 0 0 228) Hf k, isv, flt, Sv, c, f, d, rs, ds, [], lx, tv, lv, C2.fr ok F2, ⟨_, _, _, _, _, _, _, _, _, _, _, _, g20, g21, gg 22 (by omega) (by omega) (by omega) _ (hget_n (nA ok (by omega) (by omega) (by omega)) hset_s), n2 23 (by omega) (by omega) (by omega) _ f23, gg 24 (by omega) (by omega) (by omega) _ hset_s, n2 25 (by omega) (by omega) (by omega) _ f25, n2 26 (by omega) (by omega) (by omega) _ f26, n2 27 (by omega) (by omega) (by omega) _ f27, n2 28 (by omega) (by omega) (by omega) _ f28, n2 29 (by omega) (by omega) (by omega) _ f29, gg 30 (by omega) (by omega) (by omega) _ (hget_n (nA ok (by omega) (by omega) (by omega)) (hget_n (nA ok (by omega) (by omega) (by omega)) (hget_n (nA ok (by omega) (by omega) (by omega)) hset_s))), gg 31 (by omega) (by omega) (by omega) _ (hget_n (nA ok (by omega) (by omega) (by omega)) (hget_n (nA ok (by omega) (by omega) (by omega)) hset_s))⟩, R'.eq H', by omega, by omega, fun i hi => (rows i hi).2, hrs, hflt, hc3, hrd, hr0, ⟨Asc.nil, by omega, fun i hi => absurd hi (Nat.not_lt_zero i)⟩, hlA, hl60, hlv⟩
    · refine ⟨_, fun h' => ShW G h' 1000 N ns np no ∧ ShW G h' (100 * (nx + 1)) N ns np no ∧ HiW G h' nx k ∧ (∃ c' f' d', RsW G h' c' f' d' ∧ f' 0 = 14 ∧ d' 0 = nI K0 ∧ RsO o c' f' d') ∧ (∃ (vf : Nat → Option Nat) (ff sf : Nat → Int32) (cn at' : Nat), h' (Ad G 9) = some (eSc G (nI cn) (nI at')) ∧ h' (Ad G 11) = some (eR G 7 10 vf) ∧ h' (Ad G 12) = some (eI G 10 ff) ∧ h' (Ad G 13) = some (eI G 10 sf)) ∧ SBT G h' (Ad G 10) [] b ∧ Fr (fun x => (inB G 1000 60 x ∨ inB G 2 3 x) ∨ inB G (100 * (nx + 1)) 60 x ∨ x = Ad G 10 ∨ x = Ad G 9 ∨ x = Ad G 11 ∨ x = Ad G 12 ∨ x = Ad G 13) h h', 13, 12, 0, 0, by decide, by decide, Nat.zero_le _, Nat.zero_le _, vi, fun h' D => D.2.2.2.2.2.2.mo (fun a z => by
        rcases z with (z | z) | z | rfl | rfl | rfl | rfl | rfl
        · exact inBM ok (by omega) (by omega) z
        · exact inBM ok (by omega) (by omega) z
        · exact inBM ok (by omega) (by omega) z
        all_goals exact aM ok (by omega) (by omega)), ct_xread_r ok hst s9 s11 s12 s13 htA ht60 T.ad T hm H Rr HH hnx hk8 HM Tx Ko.n3 hr, ?_⟩
      rintro h' ⟨H', D1, HH', ⟨c', f', d', Rs', f0, d0, ro⟩, ⟨vf', ff', sf', cn1, at1, z9, z11, z12, z13⟩, T', F⟩
      have nq : ∀ j, nmU j → ¬ ((1000 ≤ j ∧ j < 1060) ∨ (2 ≤ j ∧ j < 5) ∨ (100 * (nx + 1) ≤ j ∧ j < 100 * (nx + 1) + 60) ∨ j = 10 ∨ j = 9 ∨ j = 11 ∨ j = 12 ∨ j = 13) → ¬ ((inB G 1000 60 (Ad G j) ∨ inB G 2 3 (Ad G j)) ∨ inB G (100 * (nx + 1)) 60 (Ad G j) ∨ Ad G j = Ad G 10 ∨ Ad G j = Ad G 9 ∨ Ad G j = Ad G 11 ∨ Ad G j = Ad G 12 ∨ Ad G j = Ad G 13) := fun j hj q => not_or.mpr ⟨not_or.mpr ⟨nB ok (by omega) hj.lt (by omega), nB ok (by omega) hj.lt (by omega)⟩, not_or.mpr ⟨nB ok (by omega) hj.lt (by omega), not_or.mpr ⟨nA ok hj.lt (by omega) (by omega), not_or.mpr ⟨nA ok hj.lt (by omega) (by omega), not_or.mpr ⟨nA ok hj.lt (by omega) (by omega), not_or.mpr ⟨nA ok hj.lt (by omega) (by omega), nA ok hj.lt (by omega) (by omega)⟩⟩⟩⟩⟩⟩
      have S1 := S.fr F (fun j h1 h2 => nq j (nm2' h1 h2) (by omega))
      obtain ⟨u0, u1, us, ur, uh, ui, uk, uv, u7, u9, -⟩ := C.up (Q := fun j => (1000 ≤ j ∧ j < 1060) ∨ (2 ≤ j ∧ j < 5) ∨ (100 * (nx + 1) ≤ j ∧ j < 100 * (nx + 1) + 60) ∨ j = 10 ∨ j = 9 ∨ j = 11 ∨ j = 12 ∨ j = 13) F nq
      obtain ⟨why', wha', beh', its', siz', att', wro', tol', Bf', cn', kd', nb', f20, f21, f22, f23, f24, f25, f26, f27, f28, f29, f30, f31⟩ := id S1
      have M := ct_mread_r (l := l) (h := h') (sv := isv) (err := if flt = -4 then -1 else flt) (lin := nI lx.length) (why := why') (wha := wha') (beh := beh') (its := its') (siz := siz') (att := att') (wro := wro') (tol := tol') (N := N) ok f27 htv ht60 f30 f31 f22 f24 f25 f26 hk8 Tx hr
      rw [mH_id f20 f21] at M
      refine Ct.mono M (fun w h'' q => ⟨q.1, ?_⟩)
      obtain ⟨kd2, nb2, att2, r2, why2, wha2, beh2, its2, N2, hD, e⟩ := q.2
      obtain ⟨hc', hrd', hr0'⟩ := rs_ok Ko ro hD f0 d0 rs ds
      have eN2 : ∀ q, q < 228 → cpN (cpN N Bf' 0 0 228) N2 0 0 228 q = N q := fun q hq => (cp_e _ _ q hq).trans (cp_e _ _ q hq)
      have C2 : ClS G h' (cpN (cpN N Bf' 0 0 228) N2 0 0 228) ns np no nx k Hf isv flt Sv c' f' d' [] lx := ⟨u0 (by omega), u1 (by omega), H'.cg eN2, Rs', HH', fun i hi => if e : i = nx then (by rw [e]; exact ⟨N, ns, np, no, D1⟩) else ui i hi (fun j hj => by omega), fun i hi => uk i hi (fun j hj => by omega), uv (fun j hj => by omega), u7 (by omega) (by omega), ⟨cn1, at1, vf', ff', sf', z9, z11, z12, z13⟩, b, b2, T', T2.fr F (nq 14 (nm0' (by omega)) (by omega)) (not_or.mpr ⟨not_or.mpr ⟨nTb 9 (by omega) rfl T2.ad, nTl (by omega) T2.ad⟩, not_or.mpr ⟨nTb nx (by omega) rfl T2.ad, not_or.mpr ⟨fun z => T2.ad 10 (nm0' (by omega)) z.symm, not_or.mpr ⟨fun z => T2.ad 9 (nm0' (by omega)) z.symm, not_or.mpr ⟨fun z => T2.ad 11 (nm0' (by omega)) z.symm, not_or.mpr ⟨fun z => T2.ad 12 (nm0' (by omega)) z.symm, fun z => T2.ad 13 (nm0' (by omega)) z.symm⟩⟩⟩⟩⟩⟩), nb⟩
      obtain ⟨g20, g21, gg⟩ := mH_cs (h := hset (hset (hset (hset (hset h' (Ad G 30) (eI G 16 kd2)) (Ad G 31) (eI G 32 nb2)) (Ad G 22) (eI G 228 (cpN N Bf' 0 0 228))) (Ad G 25) (eI G 3 (upd (upd (upd rs 0 14) 1 why2) 2 beh2))) (Ad G 26) (eI G 3 (upd (upd (upd ds 0 (nI K0)) 1 wha2) 2 its2))) ok (e := eMd G isv (nI k) 0 (if flt = -4 then -1 else flt) (nI lx.length) why2 wha2 beh2 its2 (nI tx.length) att2 (-1) (nI cs.length)) (N := cpN (cpN N Bf' 0 0 228) N2 0 0 228)
      rw [← e] at g20 g21 gg
      have F2 : Fr (inB G 20 12) h' h'' := by rw [e]; exact mH_fr (((((Fr.rf.st (inM (by omega) (by omega))).st (inM (by omega) (by omega))).st (inM (by omega) (by omega))).st (inM (by omega) (by omega))).st (inM (by omega) (by omega)))
      have n1 : ∀ {i a : Nat} {g : Hp} {x y : va_E}, i < 3000 → a < 3000 → i ≠ a → g (Ad G i) = some y → hset g (Ad G a) x (Ad G i) = some y := fun h1 h2 h3 e => hget_n (nA ok h1 h2 h3) e
      have n2 : ∀ i, 21 < i → i < 32 → ¬ (i = 30 ∨ i = 31 ∨ i = 22 ∨ i = 25 ∨ i = 26) → ∀ y, h' (Ad G i) = some y → h'' (Ad G i) = some y := fun i h1 h2 a3 y e => gg i (by omega) (by omega) (by omega) y (n1 (by omega) (by omega) (by omega) (n1 (by omega) (by omega) (by omega) (n1 (by omega) (by omega) (by omega) (n1 (by omega) (by omega) (by omega) (n1 (by omega) (by omega) (by omega) e)))))
      refine ⟨?_, F2.mA ok⟩
      exact ⟨_, ns, np, no, nx, k, Hf, isv, flt, Sv, c', f', d', _, _, [], lx, tv, lv, C2.fr ok F2, ⟨_, _, _, _, _, _, _, _, _, _, _, _, g20, g21, gg 22 (by omega) (by omega) (by omega) _ (n1 (by omega) (by omega) (by omega) (n1 (by omega) (by omega) (by omega) hset_s)), n2 23 (by omega) (by omega) (by omega) _ f23, n2 24 (by omega) (by omega) (by omega) _ f24, gg 25 (by omega) (by omega) (by omega) _ (n1 (by omega) (by omega) (by omega) hset_s), gg 26 (by omega) (by omega) (by omega) _ hset_s, n2 27 (by omega) (by omega) (by omega) _ f27, n2 28 (by omega) (by omega) (by omega) _ f28, n2 29 (by omega) (by omega) (by omega) _ f29, gg 30 (by omega) (by omega) (by omega) _ (n1 (by omega) (by omega) (by omega) (n1 (by omega) (by omega) (by omega) (n1 (by omega) (by omega) (by omega) (n1 (by omega) (by omega) (by omega) hset_s)))), gg 31 (by omega) (by omega) (by omega) _ (n1 (by omega) (by omega) (by omega) (n1 (by omega) (by omega) (by omega) (n1 (by omega) (by omega) (by omega) hset_s)))⟩, R.cg eN2, hnx, hk8, hrk, hrs, hflt, hc', hrd', hr0', ⟨Asc.nil, by omega, fun i hi => absurd hi (Nat.not_lt_zero i)⟩, hlA, hl60, hlv⟩
  · refine ⟨_, fun h' => h' (Ad G 0) = some (eSt G isv (nI p)) ∧ (∃ (vf : Nat → Option Nat) (ff sf : Nat → Int32) (cn at' : Nat), h' (Ad G 9) = some (eSc G (nI cn) (nI at')) ∧ h' (Ad G 11) = some (eR G 7 10 vf) ∧ h' (Ad G 12) = some (eI G 10 ff) ∧ h' (Ad G 13) = some (eI G 10 sf)) ∧ SBT G h' (Ad G 10) [] b ∧ Fr (fun x => x = Ad G 0 ∨ x = Ad G 10 ∨ x = Ad G 9 ∨ x = Ad G 11 ∨ x = Ad G 12 ∨ x = Ad G 13) h h', 13, 12, 0, 0, by decide, by decide, Nat.zero_le _, Nat.zero_le _, vi, fun h' D => D.2.2.2.mo (fun a z => by
        rcases z with rfl | rfl | rfl | rfl | rfl | rfl
        all_goals exact aM ok (by omega) (by omega)), ct_xread_n ok hst s9 s11 s12 s13 htA ht60 T.ad T TF, ?_⟩
    rintro h' ⟨h0', ⟨vf', ff', sf', cn1, at1, z9, z11, z12, z13⟩, T', F⟩
    have hp := TxF.p kk 0 TF (by omega)
    have hp4 : ¬ nI p = -4 := fun z => nI_pos (n := p) (by omega) (by rw [z]; decide)
    have nq : ∀ j, nmU j → ¬ (j = 0 ∨ j = 10 ∨ j = 9 ∨ j = 11 ∨ j = 12 ∨ j = 13) → ¬ (Ad G j = Ad G 0 ∨ Ad G j = Ad G 10 ∨ Ad G j = Ad G 9 ∨ Ad G j = Ad G 11 ∨ Ad G j = Ad G 12 ∨ Ad G j = Ad G 13) := fun j hj q => not_or.mpr ⟨nA ok hj.lt (by omega) (by omega), not_or.mpr ⟨nA ok hj.lt (by omega) (by omega), not_or.mpr ⟨nA ok hj.lt (by omega) (by omega), not_or.mpr ⟨nA ok hj.lt (by omega) (by omega), not_or.mpr ⟨nA ok hj.lt (by omega) (by omega), nA ok hj.lt (by omega) (by omega)⟩⟩⟩⟩⟩
    have S1 := S.fr F (fun j h1 h2 => nq j (nm2' h1 h2) (by omega))
    obtain ⟨u0, u1, us, ur, uh, ui, uk, uv, u7, u9, -⟩ := C.up (Q := fun j => j = 0 ∨ j = 10 ∨ j = 9 ∨ j = 11 ∨ j = 12 ∨ j = 13) F nq
    obtain ⟨why', wha', beh', its', siz', att', wro', tol', Bf', cn', kd', nb', f20, f21, f22, f23, f24, f25, f26, f27, f28, f29, f30, f31⟩ := id S1
    have C2 : ClS G h' N ns np no nx k Hf isv (nI p) Sv c f d [] lx := ⟨h0', u1 (by omega), us (fun j hj => by omega), ur (by omega) (by omega) (by omega), uh (by omega) (by omega), fun i hi => ui i hi (fun j hj => by omega), fun i hi => uk i hi (fun j hj => by omega), uv (fun j hj => by omega), u7 (by omega) (by omega), ⟨cn1, at1, vf', ff', sf', z9, z11, z12, z13⟩, b, b2, T', T2.fr F (nq 14 (nm0' (by omega)) (by omega)) (not_or.mpr ⟨fun z => T2.ad 0 (nm0' (by omega)) z.symm, not_or.mpr ⟨fun z => T2.ad 10 (nm0' (by omega)) z.symm, not_or.mpr ⟨fun z => T2.ad 9 (nm0' (by omega)) z.symm, not_or.mpr ⟨fun z => T2.ad 11 (nm0' (by omega)) z.symm, not_or.mpr ⟨fun z => T2.ad 12 (nm0' (by omega)) z.symm, fun z => T2.ad 13 (nm0' (by omega)) z.symm⟩⟩⟩⟩⟩), nb⟩
    have M := ct_mread_n (rem := nI k) (l := l) (h := h') (sv := isv) (err := if flt = -4 then -1 else flt) (lin := nI lx.length) (why := why') (wha := wha') (beh := beh') (its := its') (siz := siz') (att := att') (wro := wro') (tol := tol') (N := N) ok f27 htv ht60 f30 f31 TF
    rw [mH_id f20 f21] at M
    refine Ct.mono M (fun w h'' q => ⟨q.1, ?_⟩)
    obtain ⟨kd2, nb2, att2, tol2, e⟩ := q.2
    obtain ⟨g20, g21, gg⟩ := mH_cs (h := hset (hset h' (Ad G 30) (eI G 16 kd2)) (Ad G 31) (eI G 32 nb2)) ok (e := eMd G isv (nI k) 0 (nI p) (nI lx.length) why' wha' beh' its' (nI tx.length) att2 (nI p) tol2) (N := N)
    rw [← e] at g20 g21 gg
    have F2 : Fr (inB G 20 12) h' h'' := by rw [e]; exact mH_fr ((Fr.rf.st (inM (by omega) (by omega))).st (inM (by omega) (by omega)))
    have n2 : ∀ i, 21 < i → i < 32 → ¬ (i = 30 ∨ i = 31) → ∀ y, h' (Ad G i) = some y → h'' (Ad G i) = some y := fun i h1 h2 a3 y e => gg i (by omega) (by omega) (by omega) y (hget_n (nA ok (by omega) (by omega) (by omega)) (hget_n (nA ok (by omega) (by omega) (by omega)) e))
    refine ⟨?_, F2.mA ok⟩
    exact ⟨N, ns, np, no, nx, k, Hf, isv, nI p, Sv, c, f, d, rs, ds, [], lx, tv, lv, C2.fr ok F2, ⟨_, _, _, _, _, _, _, _, _, _, _, _, (by rw [if_neg hp4]; exact g20), g21, n2 22 (by omega) (by omega) (by omega) _ f22, n2 23 (by omega) (by omega) (by omega) _ f23, n2 24 (by omega) (by omega) (by omega) _ f24, n2 25 (by omega) (by omega) (by omega) _ f25, n2 26 (by omega) (by omega) (by omega) _ f26, n2 27 (by omega) (by omega) (by omega) _ f27, n2 28 (by omega) (by omega) (by omega) _ f28, n2 29 (by omega) (by omega) (by omega) _ f29, gg 30 (by omega) (by omega) (by omega) _ (hget_n (nA ok (by omega) (by omega) (by omega)) hset_s), gg 31 (by omega) (by omega) (by omega) _ hset_s⟩, R, hnx, hk8, hrk, hrs, Or.inr ⟨p, rfl, by omega⟩, hc3, hrd, hr0, ⟨Asc.nil, by omega, fun i hi => absurd hi (Nat.not_lt_zero i)⟩, hlA, hl60, hlv⟩
end PAIRS
