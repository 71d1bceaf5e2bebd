section PAIRS
variable {l : Launch} {G : Gl} {h h' : Hp}
theorem cp_e (f g : Nat → Int32) : ∀ q, q < 228 → cpN f g 0 0 228 q = f q := fun q hq => by
  unfold cpN
  rw [if_pos (by omega)]
  exact congrArg f (by omega)
/-- behind a call that sets the row and the history's count -/
theorem jump (ok : Ok G) {N : Nat → Int32} {ns np no nx k : Nat} {Hf : Nat → Int32} {isv flt : Int32} {Sv : Nat → Int32} {c : Nat} {f d rs ds : Nat → Int32} {tx lx : List Int32} {tv lv : Nat → Int32} (C : ClS G h N ns np no nx k Hf isv flt Sv c f d tx lx) (S : MdS G h N k Hf rs ds isv Sv (nI tx.length) tv (if flt = -4 then -1 else flt) (nI lx.length) lv) (P : Pu N ns np no nx k Hf isv flt Sv c f d rs ds tx lx tv lv)
    {N2 : Nat → Int32} {a2 b2 c2 nx2 k2 : Nat} (H' : ShW G h' 1000 N2 a2 b2 c2) (HH' : HiW G h' nx2 k2) (F : Fr (fun a => a = Ad G 5 ∨ inB G 1000 60 a) h h') (R' : RI N2 a2 b2 c2) (hn2 : nx2 < 9) (hk2 : k2 ≤ 8) (rows : ∀ i, i < k2 → i < k ∧ (nx2 + 9 - k2 + i) % 9 = (nx + 9 - k + i) % 9) :
    MdS G h' N k Hf rs ds isv Sv (nI tx.length) tv (if flt = -4 then -1 else flt) (nI lx.length) lv ∧ ∀ h'' N3, (∀ q, q < 228 → N3 q = N2 q) → MdS G h'' N3 k2 Hf rs ds isv Sv (nI tx.length) tv (if flt = -4 then -1 else flt) (nI lx.length) lv → Fr (inB G 20 12) h' h'' → Rel G h'' := by
  obtain ⟨R, hnx, hk8, hrk, hrs, hflt, hc3, hrd, hr0, ⟨htA, ht60, htv⟩, hlA, hl60, hlv⟩ := id P
  have nq : ∀ j, nmU j → ¬ (j = 5 ∨ (1000 ≤ j ∧ j < 1060)) → ¬ (Ad G j = Ad G 5 ∨ inB G 1000 60 (Ad G j)) := fun j hj q => not_or.mpr ⟨nA ok hj.lt (by omega) (by omega), nB ok (by omega) hj.lt (by omega)⟩
  have nTT : ∀ {b : Nat}, (∀ i, nmU i → Ad G i ≠ b) → ¬ (b = Ad G 5 ∨ inB G 1000 60 b) := fun hb => not_or.mpr ⟨fun z => hb 5 (nm0' (by omega)) z.symm, nTb 9 (by omega) rfl hb⟩
  refine ⟨S.fr F (fun j h1 h2 => nq j (nm2' h1 h2) (by omega)), fun h'' N3 e3 S2 F2 => ?_⟩
  obtain ⟨u0, u1, us, ur, uh, ui, uk, uv, u7, u9, bb, bb2, T, T2, nb, t1, t2⟩ := C.up (Q := fun j => j = 5 ∨ (1000 ≤ j ∧ j < 1060)) F nq
  have C2 : ClS G h' N3 a2 b2 c2 nx2 k2 Hf isv flt Sv c f d tx lx := ⟨u0 (by omega), u1 (by omega), H'.cg e3, ur (by omega) (by omega) (by omega), HH', fun i hi => ui i hi (fun j hj => by omega), fun i hi => (by rw [(rows i hi).2]; exact uk i (rows i hi).1 (fun j hj => by omega)), uv (fun j hj => by omega), u7 (by omega) (by omega), u9 (by omega) (by omega) (by omega) (by omega), bb, bb2, t1 (by omega) (nTT T.ad), t2 (by omega) (nTT T2.ad), nb⟩
  exact ⟨N3, a2, b2, c2, nx2, k2, Hf, isv, flt, Sv, c, f, d, rs, ds, tx, lx, tv, lv, C2.fr ok F2, S2, R'.cg e3, hn2, hk2, fun i hi => hrk i (rows i hi).1, hrs, hflt, hc3, hrd, hr0, ⟨htA, ht60, htv⟩, hlA, hl60, hlv⟩
theorem pr_clear (ok : Ok G) : Pair l G mX11_clear mX12_clear [] vI := by
  rintro h ⟨N, ns, np, no, nx, k, Hf, isv, flt, Sv, c, f, d, rs, ds, tx, lx, tv, lv, C, S, P⟩
  obtain ⟨hst, hm, H, Rr, HH, HR, HRr, HS, HC, ⟨cn0, a0, vf, ff, sf, s9, s11, s12, s13⟩, b, b2, T, T2, nb⟩ := id C
  obtain ⟨why, wha, beh, its, siz, att, wro, tol, Bf, cn, kd, nb_, e20, e21, e22, e23, e24, e25, e26, e27, e28, e29, e30, e31⟩ := id S
  obtain ⟨R, hnx, hk8, hrk, hrs, hflt, hc3, hrd, hr0, ⟨htA, ht60, htv⟩, hlA, hl60, hlv⟩ := id P
  refine ⟨_, fun h' => ShW G h' 1000 (clN N) 0 0 0 ∧ HiW G h' nx 0 ∧ Fr (fun a => a = Ad G 5 ∨ inB G 1000 60 a) h h', 10, 8, 0, 0, by decide, by decide, Nat.zero_le _, Nat.zero_le _, vi, fun h' D => D.2.2.mo (fun a z => z.elim (fun e => by rw [e]; exact aM ok (by omega) (by omega)) (inBM ok (by omega) (by omega))), ct_xclear ok hst H HH hnx hk8 (newRow_cl N), ?_⟩
  rintro h' ⟨H', HH', F⟩
  obtain ⟨S1, key⟩ := jump ok C S P H' HH' F (RI_cl N) hnx (by omega) (fun i hi => absurd hi (Nat.not_lt_zero i))
  exact Ct.mono (ct_X12_clear ok S1) (fun w h'' q => ⟨q.1, key h'' _ (fun _ _ => rfl) q.2.1 q.2.2, q.2.2.mA ok⟩)
theorem pr_undo (ok : Ok G) : Pair l G mX11_undo mX12_undo [] vI := by
  rintro h ⟨N, ns, np, no, nx, k, Hf, isv, flt, Sv, c, f, d, rs, ds, tx, lx, tv, lv, C, S, P⟩
  obtain ⟨hst, hm, H, Rr, HH, HR, HRr, HS, HC, ⟨cn0, a0, vf, ff, sf, s9, s11, s12, s13⟩, b, b2, T, T2, nb⟩ := id C
  obtain ⟨why, wha, beh, its, siz, att, wro, tol, Bf, cn, kd, nb_, e20, e21, e22, e23, e24, e25, e26, e27, e28, e29, e30, e31⟩ := id S
  obtain ⟨R, hnx, hk8, hrk, hrs, hflt, hc3, hrd, hr0, ⟨htA, ht60, htv⟩, hlA, hl60, hlv⟩ := id P
  by_cases hk0 : k = 0
  · subst hk0
    refine ⟨_, fun h' => h' = h, 10, 8, 0, 0, by decide, by decide, Nat.zero_le _, Nat.zero_le _, vi, fun h' e => by rw [e]; exact Fr.rf, ct_xundo_0 ok hst HH, ?_⟩
    rintro h' rfl
    exact Ct.mono (ct_undo_0 ok S) (fun w h'' q => ⟨q.1, ⟨N, ns, np, no, nx, 0, Hf, isv, flt, Sv, c, f, d, rs, ds, tx, lx, tv, lv, C.fr ok q.2.2, q.2.1, P⟩, q.2.2.mA ok⟩)
  · obtain ⟨a', b', e', W⟩ := HRr (k - 1) (by omega)
    rw [show (nx + 9 - k + (k - 1)) % 9 = (nx + 8) % 9 by omega] at W
    obtain ⟨a0, b0, c0, RR⟩ := hrk (k - 1) (by omega)
    refine ⟨_, fun h' => ShW G h' 1000 (hRow Hf (k - 1)) a' b' e' ∧ HiW G h' ((nx + 8) % 9) (k - 1) ∧ Fr (fun a => a = Ad G 5 ∨ inB G 1000 60 a) h h', 10, 8, 0, 0, by decide, by decide, Nat.zero_le _, Nat.zero_le _, vi, fun h' D => D.2.2.mo (fun a z => z.elim (fun e => by rw [e]; exact aM ok (by omega) (by omega)) (inBM ok (by omega) (by omega))), ct_xundo_1 ok hst H HH hnx hk8 (by omega) W, ?_⟩
    rintro h' ⟨H', HH', F⟩
    obtain ⟨S1, key⟩ := jump ok C S P H' HH' F (RR.eq W) (by omega) (by omega) (fun i hi => ⟨by omega, by omega⟩)
    exact Ct.mono (ct_undo_1 ok S1 (by omega) hk8) (fun w h'' q => ⟨q.1, key h'' _ (fun q hq => by unfold cpN hRow; rw [if_pos (by omega)]; exact congrArg Hf (by omega)) q.2.1 q.2.2, q.2.2.mA ok⟩)
theorem pr_restore (ok : Ok G) : Pair l G mX11_restore mX12_restore [] vI := by
  rintro h ⟨N, ns, np, no, nx, k, Hf, isv, flt, Sv, c, f, d, rs, ds, tx, lx, tv, lv, C, S, P⟩
  obtain ⟨hst, hm, H, Rr, HH, HR, HRr, HS, HC, ⟨cn0, a0, vf, ff, sf, s9, s11, s12, s13⟩, b, b2, T, T2, nb⟩ := id C
  obtain ⟨why, wha, beh, its, siz, att, wro, tol, Bf, cn, kd, nb_, e20, e21, e22, e23, e24, e25, e26, e27, e28, e29, e30, e31⟩ := id S
  obtain ⟨R, hnx, hk8, hrk, hrs, hflt, hc3, hrd, hr0, ⟨htA, ht60, htv⟩, hlA, hl60, hlv⟩ := id P
  by_cases hv : isv = 0
  · subst hv
    refine ⟨_, fun h' => h' = h, 10, 8, 0, 0, by decide, by decide, Nat.zero_le _, Nat.zero_le _, vi, fun h' e => by rw [e]; exact Fr.rf, ct_xrestore_0 hst, ?_⟩
    rintro h' rfl
    exact Ct.mono (ct_restore_0 ok S) (fun w h'' q => ⟨q.1, ⟨N, ns, np, no, nx, k, Hf, 0, flt, Sv, c, f, d, rs, ds, tx, lx, tv, lv, C.fr ok q.2.2, q.2.1, P⟩, q.2.2.mA ok⟩)
  · obtain ⟨M, ma, mb, me, HM, hM⟩ := HS
    obtain rfl := hM hv
    obtain ⟨a0, b0, c0, RR⟩ := hrs hv
    refine ⟨_, fun h' => ShW G h' 1000 M ma mb me ∧ HiW G h' nx 0 ∧ Fr (fun a => a = Ad G 5 ∨ inB G 1000 60 a) h h', 10, 8, 0, 0, by decide, by decide, Nat.zero_le _, Nat.zero_le _, vi, fun h' D => D.2.2.mo (fun a z => z.elim (fun e => by rw [e]; exact aM ok (by omega) (by omega)) (inBM ok (by omega) (by omega))), ct_xrestore_1 ok hst H HM HH hnx hk8 hv, ?_⟩
    rintro h' ⟨H', HH', F⟩
    obtain ⟨S1, key⟩ := jump ok C S P H' HH' F (RR.eq HM) hnx (by omega) (fun i hi => absurd hi (Nat.not_lt_zero i))
    exact Ct.mono (ct_restore_1 ok S1 hv) (fun w h'' q => ⟨q.1, key h'' _ (cp_e _ _) q.2.1 q.2.2, q.2.2.mA ok⟩)
theorem pr_save (ok : Ok G) : Pair l G mX11_save mX12_save [] vI := by
  rintro h ⟨N, ns, np, no, nx, k, Hf, isv, flt, Sv, c, f, d, rs, ds, tx, lx, tv, lv, C, S, P⟩
  obtain ⟨hst, hm, H, Rr, HH, HR, HRr, HS, HC, ⟨cn0, a0, vf, ff, sf, s9, s11, s12, s13⟩, b, b2, T, T2, nb⟩ := id C
  obtain ⟨why, wha, beh, its, siz, att, wro, tol, Bf, cn, kd, nb_, e20, e21, e22, e23, e24, e25, e26, e27, e28, e29, e30, e31⟩ := id S
  obtain ⟨R, hnx, hk8, hrk, hrs, hflt, hc3, hrd, hr0, ⟨htA, ht60, htv⟩, hlA, hl60, hlv⟩ := id P
  obtain ⟨M, ma, mb, me, HM, hM⟩ := HS
  refine ⟨_, fun h' => ShW G h' 1100 N ns np no ∧ h' (Ad G 0) = some (eSt G 1 flt) ∧ Fr (fun a => a = Ad G 0 ∨ inB G 1100 60 a) h h', 10, 8, 0, 0, by decide, by decide, Nat.zero_le _, Nat.zero_le _, vi, fun h' D => D.2.2.mo (fun a z => z.elim (fun e => by rw [e]; exact aM ok (by omega) (by omega)) (inBM ok (by omega) (by omega))), ct_xsave ok hst H HM, ?_⟩
  rintro h' ⟨H', h0', F⟩
  have nq : ∀ j, nmU j → ¬ (j = 0 ∨ (1100 ≤ j ∧ j < 1160)) → ¬ (Ad G j = Ad G 0 ∨ inB G 1100 60 (Ad G j)) := fun j hj q => not_or.mpr ⟨nA ok hj.lt (by omega) (by omega), nB ok (by omega) hj.lt (by omega)⟩
  have nTT : ∀ {b : Nat}, (∀ i, nmU i → Ad G i ≠ b) → ¬ (b = Ad G 0 ∨ inB G 1100 60 b) := fun hb => not_or.mpr ⟨fun z => hb 0 (nm0' (by omega)) z.symm, nTb 10 (by omega) rfl hb⟩
  have S1 := S.fr F (fun j h1 h2 => nq j (nm2' h1 h2) (by omega))
  obtain ⟨u0, u1, us, ur, uh, ui, uk, uv, u7, u9, -⟩ := C.up (Q := fun j => j = 0 ∨ (1100 ≤ j ∧ j < 1160)) F nq
  have C2 : ClS G h' N ns np no nx k Hf 1 flt (cpN N Sv 0 0 228) c f d tx lx := ⟨h0', u1 (by omega), us (fun j hj => by omega), ur (by omega) (by omega) (by omega), uh (by omega) (by omega), fun i hi => ui i hi (fun j hj => by omega), fun i hi => uk i hi (fun j hj => by omega), ⟨_, ns, np, no, H'.cg (cp_e N Sv), fun _ => rfl⟩, u7 (by omega) (by omega), u9 (by omega) (by omega) (by omega) (by omega), b, b2, T.fr F (nq 10 (nm0' (by omega)) (by omega)) (nTT T.ad), T2.fr F (nq 14 (nm0' (by omega)) (by omega)) (nTT T2.ad), nb⟩
  exact Ct.mono (ct_X12_save ok S1) (fun w h'' q => ⟨q.1, ⟨N, ns, np, no, nx, k, Hf, 1, flt, _, c, f, d, rs, ds, tx, lx, tv, lv, C2.fr ok q.2.2, q.2.1, R, hnx, hk8, hrk, fun _ => ⟨ns, np, no, R.cg (cp_e N Sv)⟩, hflt, hc3, hrd, hr0, ⟨htA, ht60, htv⟩, hlA, hl60, hlv⟩, q.2.2.mA ok⟩)
theorem mH_cs (ok : Ok G) {e : va_E} {N : Nat → Int32} : mH G h e N (Ad G 20) = some e ∧ mH G h e N (Ad G 21) = some (eI G 228 N) ∧ ∀ i, i < 3000 → i ≠ 20 → i ≠ 21 → ∀ y, h (Ad G i) = some y → mH G h e N (Ad G i) = some y := ⟨hget_n (nA ok (by omega) (by omega) (by omega)) hset_s, hset_s, fun i hi n0 n1 y k => hget_n (nA ok hi (by omega) n1) (hget_n (nA ok hi (by omega) n0) k)⟩
theorem gd_l (a b : List Int32) {i : Nat} (h : i < a.length) : (a ++ b).getD i 0 = a.getD i 0 := by
  rw [List.getD_eq_getElem?_getD, List.getD_eq_getElem?_getD, List.getElem?_append_left h]
theorem gd_r (a b : List Int32) {i : Nat} (h : a.length ≤ i) : (a ++ b).getD i 0 = b.getD (i - a.length) 0 := by
  rw [List.getD_eq_getElem?_getD, List.getD_eq_getElem?_getD, List.getElem?_append_right h]
theorem Asc.app {a b : List Int32} (ha : Asc a) (hb : Asc b) : Asc (a ++ b) := by
  intro i hi
  rw [List.length_append] at hi
  by_cases q : i < a.length
  · rw [gd_l _ _ q]; exact ha i q
  · rw [gd_r _ _ (Nat.not_lt.mp q)]; exact hb _ (by omega)
theorem Asc.nil : Asc [] := fun i hi => absurd hi (Nat.not_lt_zero i)
theorem Asc.one {c : Int32} (h : 0 ≤ c ∧ c < 128) : Asc [c] := fun i hi => by
  obtain rfl : i = 0 := by simpa using hi
  exact h
theorem asc_ts : ∀ k, k < 12 → Asc (tsL k) := by
  intro k hk i hi
  have e := tsL_len k hk
  have key : ∀ k, k < 12 → ∀ i, i < tsLen k → 0 ≤ (tsL k).getD i 0 ∧ (tsL k).getD i 0 < 128 := by decide +kernel
  exact key k hk i (by omega)
theorem asc_dg : ∀ n, n < 100 → Asc (dgs n) := by
  have key : ∀ n, n < 100 → ∀ i, i < (dgs n).length → 0 ≤ (dgs n).getD i 0 ∧ (dgs n).getD i 0 < 128 := by decide +kernel
  exact key
theorem asc_ln {k n th t : Nat} {b g m o : Int32} (hk : k < 3) (hn : n < 16) (hth : th ≤ 9) (ht : t ≤ 9) : Asc (lnF k n th b t g m o) ∧ (lnF k n th b t g m o).length ≤ 28 := by
  constructor
  · unfold lnF lnE lnD lnC lnB lnA
    refine Asc.app (Asc.app (Asc.app (Asc.app (Asc.app (Asc.app (Asc.app (Asc.app (Asc.app Asc.nil (asc_ts k (by omega))) (asc_dg n (by omega))) (Asc.one ck_a.1)) (asc_dg th (by omega))) ?_) ?_) ?_) ?_) ?_
    · split; exact Asc.nil; exact Asc.one ck_a.2.1
    · split; exact Asc.nil; exact Asc.app (Asc.one ck_a.2.2.1) (asc_dg t (by omega))
    · split; exact Asc.nil; exact Asc.one ck_a.2.2.2
    · split; exact asc_ts 9 (by omega); exact Asc.nil
    · split; exact Asc.nil; exact asc_ts 10 (by omega)
  · have h1 := lnE_le (n := n) (th := th) (b := b) (t := t) (g := g) (m := m) hk
    have h2 := tsL9.2.1
    unfold lnF
    rw [List.length_append]
    split <;> simp <;> omega
set_option maxRecDepth 100000 in
theorem pr_append (ok : Ok G) (c0 : Int32) : Pair l G mX11_append mX12_append [.int c0] vI := by
  rintro h ⟨N, ns, np, no, nx, k, Hf, isv, flt, Sv, c, f, d, rs, ds, tx, lx, tv, lv, C, S, P⟩
  obtain ⟨hst, hm, H, Rr, HH, HR, HRr, HS, HC, ⟨cn0, a0, vf, ff, sf, s9, s11, s12, s13⟩, b, b2, T, T2, nb⟩ := id C
  obtain ⟨why, wha, beh, its, siz, att, wro, tol, Bf, cn, kd, nb_, e20, e21, e22, e23, e24, e25, e26, e27, e28, e29, e30, e31⟩ := id S
  obtain ⟨R, hnx, hk8, hrk, hrs, hflt, hc3, hrd, hr0, ⟨htA, ht60, htv⟩, hlA, hl60, hlv⟩ := id P
  by_cases hc : (c0 < 32 ∨ 126 < c0) ∨ ¬ tx.length < 60
  · refine ⟨_, fun h' => h' = h, 10, 3, 0, 0, by decide, by decide, Nat.zero_le _, Nat.zero_le _, vi, fun h' e => by rw [e]; exact Fr.rf, ct_xappend_n ok hst s9 T hc, ?_⟩
    rintro h' rfl
    have RL : Rel G h' := ⟨N, ns, np, no, nx, k, Hf, isv, flt, Sv, c, f, d, rs, ds, tx, lx, tv, lv, C, S, P⟩
    by_cases q : inI c0 32 126 = 0
    · exact Ct.mono (ofmH e20 e21 (ct_append_n ok q)) (fun w h'' q => ⟨q.1, by rw [q.2]; exact RL, by rw [q.2]; exact Fr.rf⟩)
    · have e60 : nI tx.length = 60 := by
        have : tx.length = 60 := by
          rcases hc with z | z
          · exact absurd (inI_0.mpr z) q
          · omega
        rw [this]; rfl
      rw [e60] at e20
      exact Ct.mono (ofmH e20 e21 (ct_append_f ok q)) (fun w h'' q => ⟨q.1, by rw [q.2]; exact RL, by rw [q.2]; exact Fr.rf⟩)
  · have hc1 : ¬ (c0 < 32 ∨ 126 < c0) := fun z => hc (Or.inl z)
    have hc2 : tx.length < 60 := Nat.not_le.mp fun z => hc (Or.inr (by omega))
    refine ⟨_, fun h' => SBP G h (Ad G 10) b (tx ++ [c0]) h', 10, 3, 1, 130, by decide, by decide, by omega, by omega, vi, fun h' D => by
      obtain ⟨b', -, -, F⟩ := D
      exact F.mo (fun a z => z.elim (fun e => by rw [e]; exact aM ok (by omega) (by omega)) (fun e => by rw [e]; exact ⟨T.bA, fun e2 => T.ad 20 (nm2' (by omega) (by omega)) e2.symm⟩)), ct_xappend_y ok hst s9 T (all_nn C S) hc1 hc2, ?_⟩
    rintro h' ⟨b', T', hb', F⟩
    have nq : ∀ j, nmU j → ¬ j = 10 → ¬ (Ad G j = Ad G 10 ∨ Ad G j = b) := fun j hj q => not_or.mpr ⟨nA ok hj.lt (by omega) q, T.ad j hj⟩
    have S1 := S.fr F (fun j h1 h2 => nq j (nm2' h1 h2) (by omega))
    obtain ⟨u0, u1, us, ur, uh, ui, uk, uv, u7, u9, -⟩ := C.up (Q := fun j => j = 10) F nq
    have hl : (tx ++ [c0]).length = tx.length + 1 := by rw [List.length_append]; rfl
    have C2 : ClS G h' N ns np no nx k Hf isv flt Sv c f d (tx ++ [c0]) lx := ⟨u0 (by omega), u1 (by omega), us (fun j hj => by omega), ur (by omega) (by omega) (by omega), uh (by omega) (by omega), fun i hi => ui i hi (fun j hj => by omega), fun i hi => uk i hi (fun j hj => by omega), uv (fun j hj => by omega), u7 (by omega) (by omega), u9 (by omega) (by omega) (by omega) (by omega), b', b2, T', T2.fr F (nq 14 (nm0' (by omega)) (by omega)) (not_or.mpr ⟨fun z => T2.ad 10 (nm0' (by omega)) z.symm, fun z => nb z.symm⟩), fun z => hb'.elim (fun e => nb (by rw [← e, z])) (fun e => T2.bn (by rw [← z]; exact e))⟩
    obtain ⟨why', wha', beh', its', siz', att', wro', tol', Bf', cn', kd', nb', f20, f21, f22, f23, f24, f25, f26, f27, f28, f29, f30, f31⟩ := id S1
    have M := ct_append_y (l := l) (h := h') (sv := isv) (rem := nI k) (err := if flt = -4 then -1 else flt) (lin := nI lx.length) (why := why') (wha := wha') (beh := beh') (its := its') (siz := siz') (att := att') (wro := wro') (tol := tol') (N := N) ok f27 hc2 (c := c0) (fun z => hc1 (inI_0.mp z))
    rw [mH_id f20 f21] at M
    refine Ct.mono M (fun w h'' q => ⟨q.1, ?_⟩)
    obtain ⟨g20, g21, gg⟩ := mH_cs (h := hset h' (Ad G 27) (eI G 60 (upd tv tx.length c0))) ok (e := eMd G isv (nI k) (nI (tx.length + 1)) (if flt = -4 then -1 else flt) (nI lx.length) why' wha' beh' its' siz' att' wro' tol') (N := N)
    rw [← q.2] at g20 g21 gg
    have F2 : Fr (inB G 20 12) h' h'' := by rw [q.2]; exact mH_fr (Fr.rf.st (inM (by omega) (by omega)))
    have n2 : ∀ i, 21 < i → i < 32 → i ≠ 27 → ∀ y, h' (Ad G i) = some y → h'' (Ad G i) = some y := fun i h1 h2 a3 y e => gg i (by omega) (by omega) (by omega) y (hget_n (nA ok (by omega) (by omega) a3) e)
    refine ⟨?_, F2.mA ok⟩
    refine ⟨N, ns, np, no, nx, k, Hf, isv, flt, Sv, c, f, d, rs, ds, tx ++ [c0], lx, upd tv tx.length c0, lv, C2.fr ok F2, ⟨why', wha', beh', its', siz', att', wro', tol', Bf', cn', kd', nb', (by rw [hl]; exact g20), g21, n2 22 (by omega) (by omega) (by omega) _ f22, n2 23 (by omega) (by omega) (by omega) _ f23, n2 24 (by omega) (by omega) (by omega) _ f24, n2 25 (by omega) (by omega) (by omega) _ f25, n2 26 (by omega) (by omega) (by omega) _ f26, gg 27 (by omega) (by omega) (by omega) _ hset_s, n2 28 (by omega) (by omega) (by omega) _ f28, n2 29 (by omega) (by omega) (by omega) _ f29, n2 30 (by omega) (by omega) (by omega) _ f30, n2 31 (by omega) (by omega) (by omega) _ f31⟩, R, hnx, hk8, hrk, hrs, hflt, hc3, hrd, hr0, ⟨htA.app (Asc.one ?_), by omega, fun i hi => ?_⟩, hlA, hl60, hlv⟩
    · have t1 : Int32.toInt 32 = 32 := rfl
      have t2 : Int32.toInt 126 = 126 := rfl
      have t3 : Int32.toInt 128 = 128 := rfl
      simp only [Int32.lt_iff_toInt_lt, Int32.le_iff_toInt_le, Int32.toInt_zero, not_or] at *; omega
    · rw [updN]
      by_cases e : i = tx.length
      · rw [if_pos e, e, gd_r _ _ (Nat.le_refl _), Nat.sub_self]; rfl
      · rw [if_neg e, gd_l _ _ (by omega)]; exact htv i (by omega)
set_option maxRecDepth 100000 in
theorem pr_describe (ok : Ok G) (x : Int32) : Pair l G mX11_describe mX12_describe [.int x] vI := by
  rintro h ⟨N, ns, np, no, nx, k, Hf, isv, flt, Sv, c, f, d, rs, ds, tx, lx, tv, lv, C, S, P⟩
  obtain ⟨hst, hm, H, Rr, HH, HR, HRr, HS, HC, ⟨cn0, a0, vf, ff, sf, s9, s11, s12, s13⟩, b, b2, T, T2, nb⟩ := id C
  obtain ⟨why, wha, beh, its, siz, att, wro, tol, Bf, cn, kd, nb_, e20, e21, e22, e23, e24, e25, e26, e27, e28, e29, e30, e31⟩ := id S
  obtain ⟨R, hnx, hk8, hrk, hrs, hflt, hc3, hrd, hr0, ⟨htA, ht60, htv⟩, hlA, hl60, hlv⟩ := id P
  by_cases hx : 0 ≤ x ∧ x < N 3
  · obtain ⟨i, hi, rfl⟩ := R.p hx
    obtain ⟨th, eth, hth⟩ := thk_e (R.P i hi)
    obtain ⟨t, et, ht⟩ := (R.P i hi).2.2.2.1
    have hK := (R.P i hi).1.2
    have hnp := R.np
    obtain ⟨lA, lL⟩ := asc_ln (k := kOf (N (60 + 8 * i))) (n := i) (th := th) (t := t) (b := N (62 + 8 * i)) (g := N (61 + 8 * i)) (m := N (64 + 8 * i)) (o := N (66 + 8 * i)) hK (by omega) hth ht
    have c1 := ct_xdescribe_in (l := l) ok hst H T2 (all_nn C S) hi eth hth et ht
    have c2 := fun (h' : Hp) (lv' : Nat → Int32) (w1 w2 w3 w4 w5 w6 w7 w8 : Int32) => ct_describe_in (l := l) (h := h') (sv := isv) (rem := nI k) (typ := nI tx.length) (err := if flt = -4 then -1 else flt) (lin := nI lx.length) (why := w1) (wha := w2) (beh := w3) (its := w4) (siz := w5) (att := w6) (wro := w7) (tol := w8) ok R.1 (lv := lv') hi eth hth et ht
    generalize lnF (kOf (N (60 + 8 * i))) i th (N (62 + 8 * i)) t (N (61 + 8 * i)) (N (64 + 8 * i)) (N (66 + 8 * i)) = L at lA lL c1 c2
    refine ⟨_, fun h' => SBP G h (Ad G 14) b2 L h', 10, 9, 10, 1300, by decide, by decide, by omega, by omega, vi, fun h' D => by
      obtain ⟨b', -, -, F⟩ := D
      exact F.mo (fun a z => z.elim (fun e => by rw [e]; exact aM ok (by omega) (by omega)) (fun e => by rw [e]; exact ⟨T2.bA, fun e2 => T2.ad 20 (nm2' (by omega) (by omega)) e2.symm⟩)), c1, ?_⟩
    rintro h' ⟨b', T', hb', F⟩
    have nq : ∀ j, nmU j → ¬ j = 14 → ¬ (Ad G j = Ad G 14 ∨ Ad G j = b2) := fun j hj q => not_or.mpr ⟨nA ok hj.lt (by omega) q, T2.ad j hj⟩
    have S1 := S.fr F (fun j h1 h2 => nq j (nm2' h1 h2) (by omega))
    obtain ⟨u0, u1, us, ur, uh, ui, uk, uv, u7, u9, -⟩ := C.up (Q := fun j => j = 14) F nq
    have C2 : ClS G h' N ns np no nx k Hf isv flt Sv c f d tx L := ⟨u0 (by omega), u1 (by omega), us (fun j hj => by omega), ur (by omega) (by omega) (by omega), uh (by omega) (by omega), fun i hi => ui i hi (fun j hj => by omega), fun i hi => uk i hi (fun j hj => by omega), uv (fun j hj => by omega), u7 (by omega) (by omega), u9 (by omega) (by omega) (by omega) (by omega), b, b', T.fr F (nq 10 (nm0' (by omega)) (by omega)) (not_or.mpr ⟨fun z => T.ad 14 (nm0' (by omega)) z.symm, nb⟩), T', fun z => hb'.elim (fun e => nb (by rw [z, e])) (fun e => T.bn (by rw [z]; exact e))⟩
    obtain ⟨why', wha', beh', its', siz', att', wro', tol', Bf', cn', kd', nb', f20, f21, f22, f23, f24, f25, f26, f27, f28, f29, f30, f31⟩ := id S1
    have M := c2 h' lv why' wha' beh' its' siz' att' wro' tol'
    rw [apL_0, hset_self f28, mH_id f20 f21] at M
    refine Ct.mono M (fun w h'' q => ⟨q.1, ?_⟩)
    obtain ⟨g20, g21, gg⟩ := mH_cs (h := hset h' (Ad G 28) (eI G 60 (apL lv L))) ok (e := eMd G isv (nI k) (nI tx.length) (if flt = -4 then -1 else flt) (nI L.length) why' wha' beh' its' siz' att' wro' tol') (N := N)
    rw [← q.2] at g20 g21 gg
    have F2 : Fr (inB G 20 12) h' h'' := by rw [q.2]; exact mH_fr (Fr.rf.st (inM (by omega) (by omega)))
    have n2 : ∀ i, 21 < i → i < 32 → i ≠ 28 → ∀ y, h' (Ad G i) = some y → h'' (Ad G i) = some y := fun i h1 h2 a3 y e => gg i (by omega) (by omega) (by omega) y (hget_n (nA ok (by omega) (by omega) a3) e)
    refine ⟨?_, F2.mA ok⟩
    exact ⟨N, ns, np, no, nx, k, Hf, isv, flt, Sv, c, f, d, rs, ds, tx, L, tv, apL lv L, C2.fr ok F2, ⟨why', wha', beh', its', siz', att', wro', tol', Bf', cn', kd', nb', g20, g21, n2 22 (by omega) (by omega) (by omega) _ f22, n2 23 (by omega) (by omega) (by omega) _ f23, n2 24 (by omega) (by omega) (by omega) _ f24, n2 25 (by omega) (by omega) (by omega) _ f25, n2 26 (by omega) (by omega) (by omega) _ f26, n2 27 (by omega) (by omega) (by omega) _ f27, gg 28 (by omega) (by omega) (by omega) _ hset_s, n2 29 (by omega) (by omega) (by omega) _ f29, n2 30 (by omega) (by omega) (by omega) _ f30, n2 31 (by omega) (by omega) (by omega) _ f31⟩, R, hnx, hk8, hrk, hrs, hflt, hc3, hrd, hr0, ⟨htA, ht60, htv⟩, lA, by omega, fun i hi => by unfold apL; exact if_pos hi⟩
  · refine ⟨_, fun h' => h' = h, 10, 8, 0, 0, by decide, by decide, Nat.zero_le _, Nat.zero_le _, vi, fun h' e => by rw [e]; exact Fr.rf, ct_xdescribe_out ok hst H hx, ?_⟩
    rintro h' rfl
    exact Ct.mono (ofmH e20 e21 (ct_describe_out ok R.1 x hx)) (fun w h'' q => ⟨q.1, by rw [q.2]; exact ⟨N, ns, np, no, nx, k, Hf, isv, flt, Sv, c, f, d, rs, ds, tx, lx, tv, lv, C, S, P⟩, by rw [q.2]; exact Fr.rf⟩)
end PAIRS
