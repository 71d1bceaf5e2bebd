section PAIRS
variable {l : Launch} {G : Gl} {M1 M2 : MM} {T : Value → Prop}
theorem tl3 (k : Nat) (sh g b t m q : Int32) : tlP k sh g b t m q 3 = b := rfl
theorem tl5 (k : Nat) (sh g b t m q : Int32) : tlP k sh g b t m q 5 = m := rfl
theorem tl6 (k : Nat) (sh g b t m q : Int32) : tlP k sh g b t m q 6 = smoothK k b := rfl
theorem tl7 (k : Nat) (sh g b t m q : Int32) : tlP k sh g b t m q 7 = crackedK k g b := rfl
theorem Ct.vq {M : MM} {d mc ms : Nat} {args : List Value} {h : Hp} {v v' : Value} {P : Hp → Prop} (k : Ct l G M d mc ms args h (fun w h' => w = some v ∧ P h')) (e : v = v') : Ct l G M d mc ms args h (fun w h' => w = some v' ∧ P h') := by subst e; exact k
set_option maxRecDepth 100000 in
theorem pr_account (ok : Ok G) (y : Int32) : Pair l G mX11_account mX12_account [.int y] vI := by
  refine Pair.same ?_
  rintro h ⟨N, ns, np, no, nx, k, Hf, isv, flt, Sv, c, f, d, rs, ds, tx, lx, tv, lv, C, S, P⟩
  obtain ⟨hst, hm, H, Rr, HH, HR, HRr, HS, HC, ⟨cn0, a0, vf, ff, sf, s9, s11, s12, s13⟩, b, b2, T, T2, nb⟩ := id C
  obtain ⟨why, wha, beh, its, siz, att, wro, tol, Bf, cn, kd, nb_, e20, e21, e22, e23, e24, e25, e26, e27, e28, e29, e30, e31⟩ := id S
  obtain ⟨R, hnx, hk8, hrk, hrs, hflt, hc3, hrd, hr0, ⟨htA, ht60, htv⟩, hlA, hl60, hlv⟩ := id P
  obtain ⟨a2, a3, a4, b2', b3, b4, AP, AO⟩ := R.1
  obtain ⟨A, R1, R2, R3, R4, R5, R6, RG, RU⟩ := id R
  rcases ix_or y 15 (by omega) with hy | ⟨w, hw, rfl⟩
  · exact ⟨_, _, _, by decide, by decide, vi, ct_xaccount_n ok hst y hy, ofmH e20 e21 (ct_account_n ok R.1 y hy)⟩
  rcases (show w = 0 ∨ w = 1 ∨ w = 2 ∨ w = 3 ∨ w = 4 ∨ w = 5 ∨ w = 6 ∨ w = 7 ∨ w = 8 ∨ w = 9 ∨ w = 10 ∨ w = 11 ∨ w = 12 ∨ w = 13 ∨ w = 14 ∨ w = 15 by omega) with rfl | rfl | rfl | rfl | rfl | rfl | rfl | rfl | rfl | rfl | rfl | rfl | rfl | rfl | rfl | rfl
  · exact ⟨_, _, _, by decide, by decide, vi, ct_xaccount_0 ok hst H, ofmH e20 e21 (ct_account_0 ok R.1)⟩
  · exact ⟨_, _, _, by decide, by decide, vi, ct_xaccount_1 ok hst H, ofmH e20 e21 (ct_account_1 ok R.1)⟩
  · exact ⟨_, _, _, by decide, by decide, vi, ct_xaccount_2 ok hst H, ofmH e20 e21 (ct_account_2 ok R.1)⟩
  · exact ⟨_, _, _, by decide, by decide, vi, ct_xaccount_3 ok hst H, ofmH e20 e21 (ct_account_3 ok R.1)⟩
  · exact ⟨_, _, _, by decide, by decide, vi, (ct_xaccount_4 ok hst H).vq (congrArg Value.int (by rw [← R2, a3, ← shop_e N np, Int32.add_sub_cancel])), ofmH e20 e21 (ct_account_4 ok R.1)⟩
  · exact ⟨_, _, _, by decide, by decide, vi, (ct_xaccount_5 ok hst H).vq (congrArg Value.int (by rw [sm_cg (g := fun i => smoothK (kOf (N (60 + 8 * i))) (N (62 + 8 * i))) (fun i hi => tl6 _ _ _ _ _ _ _)])), ofmH e20 e21 (ct_account_5 ok R.1)⟩
  · exact ⟨_, _, _, by decide, by decide, vi, (ct_xaccount_6 ok hst H).vq (congrArg Value.int (by rw [sm_cg (g := fun i => crackedK (kOf (N (60 + 8 * i))) (N (61 + 8 * i)) (N (62 + 8 * i))) (fun i hi => tl7 _ _ _ _ _ _ _)])), ofmH e20 e21 (ct_account_6 ok R.1)⟩
  · exact ⟨_, _, _, by decide, by decide, vi, ct_xaccount_7 ok hst H, ofmH e20 e21 (ct_account_7 ok R.1)⟩
  · exact ⟨_, _, _, by decide, by decide, vi, ct_xaccount_8 ok hst H, ofmH e20 e21 (ct_account_8 ok R.1)⟩
  · exact ⟨_, _, _, by decide, by decide, vi, (ct_xaccount_9 ok hst H).vq (congrArg Value.int (by rw [sm_cg (g := fun i => N (62 + 8 * i)) (fun i hi => tl3 _ _ _ _ _ _ _), ← R3])), ofmH e20 e21 (ct_account_9 ok R.1)⟩
  · exact ⟨_, _, _, by decide, by decide, vi, (ct_xaccount_10 ok hst H).vq (congrArg Value.int (by rw [sm_cg (g := fun i => N (64 + 8 * i)) (fun i hi => tl5 _ _ _ _ _ _ _), ← R4])), ofmH e20 e21 (ct_account_10 ok R.1)⟩
  · exact ⟨_, _, _, by decide, by decide, vi, ct_xaccount_11 ok hst H, ofmH e20 e21 (ct_account_11 ok R.1)⟩
  · exact ⟨_, _, _, by decide, by decide, vi, ct_xaccount_12 ok hst H, ofmH e20 e21 (ct_account_12 ok R.1)⟩
  · exact ⟨_, _, _, by decide, by decide, vi, (ct_xaccount_13 ok hst H).vq (congrArg Value.int (by rw [← R5])), ofmH e20 e21 (ct_account_13 ok R.1)⟩
  · exact ⟨_, _, _, by decide, by decide, vi, ct_xaccount_14 ok hst s9 T, ofmH e20 e21 (ct_account_14 ok R.1)⟩
  · exact ⟨_, _, _, by decide, by decide, vi, ct_xaccount_15 ok hst HH, ofmH e20 e21 (ct_account_15 ok R.1)⟩

theorem pr_fault (ok : Ok G) : Pair l G mX11_fault mX12_fault [] vI := by
  refine Pair.same ?_
  rintro h ⟨N, ns, np, no, nx, k, Hf, isv, flt, Sv, c, f, d, rs, ds, tx, lx, tv, lv, C, S, P⟩
  obtain ⟨hst, hm, H, Rr, HH, HR, HRr, HS, HC, ⟨cn0, a0, vf, ff, sf, s9, s11, s12, s13⟩, b, b2, T, T2, nb⟩ := id C
  obtain ⟨why, wha, beh, its, siz, att, wro, tol, Bf, cn, kd, nb_, e20, e21, e22, e23, e24, e25, e26, e27, e28, e29, e30, e31⟩ := id S
  obtain ⟨R, hnx, hk8, hrk, hrs, hflt, hc3, hrd, hr0, ⟨htA, ht60, htv⟩, hlA, hl60, hlv⟩ := id P
  refine ⟨_, _, _, by decide, by decide, vi, ct_xfault ok hst H, ofmH e20 e21 ((ct_X12_fault ok).cg ?_ rfl)⟩
  by_cases q : flt = -4
  · rw [if_pos q, if_pos rfl, q]
  · rw [if_neg q, if_neg]
    rcases hflt with z | ⟨p, rfl, hp⟩
    · exact absurd z q
    · exact nI_n1 (by omega)
theorem pr_reason (ok : Ok G) (x y : Int32) : Pair l G mX11_reason mX12_reason [.int x, .int y] vI := by
  refine Pair.same ?_
  rintro h ⟨N, ns, np, no, nx, k, Hf, isv, flt, Sv, c, f, d, rs, ds, tx, lx, tv, lv, C, S, P⟩
  obtain ⟨hst, hm, H, Rr, HH, HR, HRr, HS, HC, ⟨cn0, a0, vf, ff, sf, s9, s11, s12, s13⟩, b, b2, T, T2, nb⟩ := id C
  obtain ⟨why, wha, beh, its, siz, att, wro, tol, Bf, cn, kd, nb_, e20, e21, e22, e23, e24, e25, e26, e27, e28, e29, e30, e31⟩ := id S
  obtain ⟨R, hnx, hk8, hrk, hrs, hflt, hc3, hrd, hr0, ⟨htA, ht60, htv⟩, hlA, hl60, hlv⟩ := id P
  by_cases hx : 0 ≤ x ∧ x < 3
  · obtain ⟨j, hj, rfl⟩ := rg_of (n := 3) (by omega) hx
    by_cases q : j < c
    · refine ⟨_, _, _, by decide, by decide, vi, ct_xreason_in ok hst Rr hc3 q y, ofmH e20 e21 ((ct_reason_in ok e25 e26 (show j ≤ 2 by omega) y).cg ?_ rfl)⟩
      obtain ⟨z1, z2, z3⟩ := hrd j q
      rw [z1, z2, if_neg z3]
    · refine ⟨_, _, _, by decide, by decide, vi, ct_xreason_out ok hst Rr hc3 hx (fun z => q (Nat.not_le.mp fun w => absurd z (nI_nlt w (by omega)))) y, ofmH e20 e21 ((ct_reason_in ok e25 e26 (show j ≤ 2 by omega) y).cg ?_ rfl)⟩
      rw [hr0 j (by omega) hj, if_pos rfl]
  · refine ⟨_, _, _, by decide, by decide, vi, ct_xreason_b ok hst hx y, ofmH e20 e21 (ct_reason_out ok x y ?_)⟩
    rw [inI_0]
    have t2 : Int32.toInt 2 = 2 := rfl
    have t3 : Int32.toInt 3 = 3 := rfl
    simp only [Int32.lt_iff_toInt_lt, Int32.le_iff_toInt_le, Int32.toInt_zero] at *
    omega
theorem pr_written (ok : Ok G) (x : Int32) : Pair l G mX11_written mX12_written [.int x] vI := by
  refine Pair.same ?_
  rintro h ⟨N, ns, np, no, nx, k, Hf, isv, flt, Sv, c, f, d, rs, ds, tx, lx, tv, lv, C, S, P⟩
  obtain ⟨hst, hm, H, Rr, HH, HR, HRr, HS, HC, ⟨cn0, a0, vf, ff, sf, s9, s11, s12, s13⟩, b, b2, T, T2, nb⟩ := id C
  obtain ⟨why, wha, beh, its, siz, att, wro, tol, Bf, cn, kd, nb_, e20, e21, e22, e23, e24, e25, e26, e27, e28, e29, e30, e31⟩ := id S
  obtain ⟨R, hnx, hk8, hrk, hrs, hflt, hc3, hrd, hr0, ⟨htA, ht60, htv⟩, hlA, hl60, hlv⟩ := id P
  by_cases hx : 0 ≤ x ∧ x < nI lx.length
  · obtain ⟨i, hi, rfl⟩ := rg_of (by omega) hx
    exact ⟨_, _, _, by decide, by decide, vi, ct_xwritten_in ok hst T2 hlA (by omega) hi, ofmH e20 e21 ((ct_written_in ok e28 hl60 hi).cg (by rw [hlv i hi]) rfl)⟩
  · exact ⟨_, _, _, by decide, by decide, vi, ct_xwritten_out ok hst T2 hlA (by omega) hx, ofmH e20 e21 (ct_written_out ok hl60 x hx)⟩
/-- calls of which the class writes down the sounds, and the model reads its row alone -/
theorem Pair.cs (ok : Ok G) {args : List Value} (kk : ∀ (h : Hp) (N : Nat → Int32) (ns np no : Nat) (isv flt : Int32) (sz : Nat) (g : Nat → Int32), h (Ad G 0) = some (eSt G isv flt) → ShW G h 1000 N ns np no → RI N ns np no → ChW G h sz g → ∃ (v : Value) (d1 d2 : Nat) (g' : Nat → Int32), d1 ≤ 13 ∧ d2 ≤ 13 ∧ T v ∧ CtR l G M1 d1 (.ref (Ad G 0) :: args) h (some v) (hset (hset h (Ad G 7) (.inr (1, [.ref (Ad G 8), .int (nI np)]))) (Ad G 8) (eI G 16 g')) ∧ ∀ (h : Hp) (sv rem typ err lin why wha beh its siz att wro tol : Int32), CtR l G M2 d2 (.ref (Ad G 20) :: args) (mH G h (eMd G sv rem typ err lin why wha beh its siz att wro tol) N) (some v) (mH G h (eMd G sv rem typ err lin why wha beh its siz att wro tol) N)) : Pair l G M1 M2 args T := by
  rintro h ⟨N, ns, np, no, nx, k, Hf, isv, flt, Sv, c, f, d, rs, ds, tx, lx, tv, lv, C, S, P⟩
  obtain ⟨hst, hm, H, Rr, HH, HR, HRr, HS, HC, ⟨cn0, a0, vf, ff, sf, s9, s11, s12, s13⟩, b, b2, T0, T2, nb⟩ := id C
  obtain ⟨why, wha, beh, its, siz, att, wro, tol, Bf, cn, kd, nb_, e20, e21, e22, e23, e24, e25, e26, e27, e28, e29, e30, e31⟩ := id S
  obtain ⟨R, hnx, hk8, hrk, hrs, hflt, hc3, hrd, hr0, ⟨htA, ht60, htv⟩, hlA, hl60, hlv⟩ := id P
  obtain ⟨sz, g, C7⟩ := HC
  obtain ⟨v, d1, d2, g', q1, q2, t, c1, c2⟩ := kk h N ns np no isv flt sz g hst H R C7
  refine ⟨v, fun h' => h' = _, d1, d2, 0, 0, q1, q2, Nat.zero_le _, Nat.zero_le _, t, fun h' e => by rw [e]; exact (Fr.rf.st (aM ok (by omega) (by omega))).st (aM ok (by omega) (by omega)), c1, ?_⟩
  rintro h' rfl
  have F : Fr (fun a => a = Ad G 7 ∨ a = Ad G 8) h (hset (hset h (Ad G 7) (.inr (1, [.ref (Ad G 8), .int (nI np)]))) (Ad G 8) (eI G 16 g')) := (Fr.rf.st (Or.inl rfl)).st (Or.inr rfl)
  have nq : ∀ j, nmU j → ¬ (j = 7 ∨ j = 8) → ¬ (Ad G j = Ad G 7 ∨ Ad G j = Ad G 8) := fun j hj q z => by
    rcases z with z | z
    · exact nA ok hj.lt (by omega) (fun e => q (Or.inl e)) z
    · exact nA ok hj.lt (by omega) (fun e => q (Or.inr e)) z
  have n7 := T0.ad 7 (Or.inl (by omega)); have n8 := T0.ad 8 (Or.inl (by omega))
  have m7 := T2.ad 7 (Or.inl (by omega)); have m8 := T2.ad 8 (Or.inl (by omega))
  have S2 := S.fr F (fun j h1 h2 => nq j (nm2' h1 h2) (by omega))
  obtain ⟨u0, u1, us, ur, uh, ui, uk, uv, -, u9, -⟩ := C.up (Q := fun j => j = 7 ∨ j = 8) F nq
  have C2 : ClS G (hset (hset h (Ad G 7) (.inr (1, [.ref (Ad G 8), .int (nI np)]))) (Ad G 8) (eI G 16 g')) N ns np no nx k Hf isv flt Sv c f d tx lx := ⟨u0 (by omega), u1 (by omega), us (fun j _ => by omega), ur (by omega) (by omega) (by omega), uh (by omega) (by omega), fun i hi => ui i hi (fun j _ => by omega), fun i hi => uk i hi (fun j _ => by omega), uv (fun j _ => by omega), ⟨np, g', (hget_n (nA ok (by omega) (by omega) (by omega)) hset_s), hset_s⟩, u9 (by omega) (by omega) (by omega) (by omega), b, b2, T0.fr F (nq 10 (nm0' (by omega)) (by omega)) (fun z => z.elim (fun e => n7 e.symm) (fun e => n8 e.symm)), T2.fr F (nq 14 (nm0' (by omega)) (by omega)) (fun z => z.elim (fun e => m7 e.symm) (fun e => m8 e.symm)), nb⟩
  obtain ⟨why', wha', beh', its', siz', att', wro', tol', Bf', cn', kd', nb', e20', e21', -⟩ := id S2
  exact Ct.mono (ofmH e20' e21' (c2 _ _ _ _ _ _ _ _ _ _ _ _ _ _)) (fun w h'' q => ⟨q.1, by rw [q.2]; exact ⟨N, ns, np, no, nx, k, Hf, isv, flt, Sv, c, f, d, rs, ds, tx, lx, tv, lv, C2, S2, P⟩, by rw [q.2]; exact Fr.rf⟩)
theorem pr_alike (ok : Ok G) : Pair l G mX11_alike mX12_alike [] vI := Pair.cs ok (fun h N ns np no isv flt sz g hst H R C7 => 
  ⟨_, _, _, _, by decide, by decide, vi, ct_xalike ok hst H C7, fun _ _ _ _ _ _ _ _ _ _ _ _ _ _ => (ct_X12_alike ok R.1).cg (by rw [alike_e (f0 := g) R.P]) rfl⟩)
theorem pr_ranked (ok : Ok G) (x : Int32) : Pair l G mX11_ranked mX12_ranked [.int x] vI := Pair.cs ok (fun h N ns np no isv flt sz g hst H R C7 => 
  ⟨_, _, _, _, by decide, by decide, vi, ct_xranked ok hst H C7 x, fun _ _ _ _ _ _ _ _ _ _ _ _ _ _ => (ct_X12_ranked ok R.1 x).cg (by rw [ranked_e (f0 := g) R.P R.np x]) rfl⟩)
theorem pr_nearest (ok : Ok G) (x : Int32) : Pair l G mX11_nearest mX12_nearest [.int x] vI := by
  by_cases hx : x < 0 ∨ 120 < x
  · exact Pair.rd (fun h N ns np no isv flt hst H R => ⟨_, _, _, by decide, by decide, vi, ct_xnearest_out ok hst H x hx, fun _ _ _ _ _ _ _ _ _ _ _ _ _ => (ct_X12_nearest ok R.1 x).cg (by rw [if_pos hx]) rfl⟩)
  · exact Pair.cs ok (fun h N ns np no isv flt sz g hst H R C7 => ⟨_, _, _, _, by decide, by decide, vi, ct_xnearest_in ok hst H C7 x hx, fun _ _ _ _ _ _ _ _ _ _ _ _ _ _ => (ct_X12_nearest ok R.1 x).cg (by rw [if_neg hx, (near_e (f0 := g) R.P R.np x np (Nat.le_refl _)).1]) rfl⟩)
theorem pr_peal (ok : Ok G) (x : Int32) : Pair l G mX11_peal mX12_peal [.int x] vI := by
  by_cases hx : x < 1 ∨ 20 < x
  · exact Pair.rd (fun h N ns np no isv flt hst H R => ⟨_, _, _, by decide, by decide, vi, ct_xpeal_out ok hst H x hx, fun _ _ _ _ _ _ _ _ _ _ _ _ _ => ct_peal_n ok R.1 (inI_0.mpr hx)⟩)
  · refine Pair.cs ok (fun h N ns np no isv flt sz g hst H R C7 => ?_)
    have hx0 : 0 ≤ x := by
      have t1 : Int32.toInt 1 = 1 := rfl
      simp only [Int32.lt_iff_toInt_lt, Int32.le_iff_toInt_le, Int32.toInt_zero] at *
      omega
    obtain ⟨m, hm, e, h1, h2⟩ := peal_e (f0 := g) R.P R.np hx0
    refine ⟨_, 8, 9, _, by decide, by decide, vi, (ct_xpeal_in ok hst H C7 x hx).cg (by rw [e]) rfl, fun _ _ _ _ _ _ _ _ _ _ _ _ _ _ => ?_⟩
    rcases h2 with h2 | ⟨h2, h3⟩
    · exact ct_peal_a ok R.1 (fun z => hx (inI_0.mp z)) hm h1 h2
    · exact ct_peal_b ok R.1 (fun z => hx (inI_0.mp z)) hm h1 h2 h3
theorem pr_meanSound (ok : Ok G) : Pair l G mX11_meanSound mX12_meanSound [] vF := by
  refine Pair.cs ok (fun h N ns np no isv flt sz g hst H R C7 => ?_)
  obtain ⟨s, es, hs⟩ := ms_n R.P R.np
  obtain ⟨r, er, hr⟩ := mrn_e (N := N) R.np
  have e1 := (ms_e (f0 := g) R.P).trans es
  have e2 := (mr_e (f0 := g) R.P).trans er
  have hn : ¬ nI r = 0 → vf_n32 (FP.fdiv (FP.i2f (nI s)) (FP.i2f (nI r))) := fun z => fdiv_n hs hr (fun q => z (by rw [q]; rfl))
  have hv : vF (.float (if nI r = 0 then 0 else FP.fdiv (FP.i2f (nI s)) (FP.i2f (nI r)))) := by
    refine ⟨_, rfl, f2d_n ?_⟩
    split
    · exact Nat.zero_le _
    · rename_i z; exact fdiv_le hs hr (fun q => z (by rw [q]; rfl))
  refine ⟨_, _, _, _, by decide, by decide, hv, (ct_xmeanSound ok hst H C7 (by rw [e1, e2]; exact hn)).cg (by unfold meanS; rw [e1, e2]) rfl, fun _ _ _ _ _ _ _ _ _ _ _ _ _ _ => (ct_X12_meanSound ok R.1 (by rw [er, es]; exact hn)).cg (by rw [er, es]) rfl⟩
theorem ShW.gpp (ok : Ok G) {h : Hp} {B ns np no : Nat} {N : Nat → Int32} (hB : B + 60 < 3000) (H : ShW G h B N ns np no) (g : Nat → Int32) : ShW G (hset h (Ad G (B + 4)) (eI G 8 g)) B N ns np no := by
  obtain ⟨gp, fs, fp, fo, S, F2⟩ := H.sh
  exact (S.gpp ok hB g).w F2
theorem pr_filled (ok : Ok G) : Pair l G mX11_filled mX12_filled [] vI := by
  rintro h ⟨N, ns, np, no, nx, k, Hf, isv, flt, Sv, c, f, d, rs, ds, tx, lx, tv, lv, C, S, P⟩
  obtain ⟨hst, hm, H, Rr, HH, HR, HRr, HS, HC, ⟨cn0, a0, vf, ff, sf, s9, s11, s12, s13⟩, b, b2, T, T2, nb⟩ := id C
  obtain ⟨why, wha, beh, its, siz, att, wro, tol, Bf, cn, kd, nb_, e20, e21, e22, e23, e24, e25, e26, e27, e28, e29, e30, e31⟩ := id S
  obtain ⟨R, hnx, hk8, hrk, hrs, hflt, hc3, hrd, hr0, ⟨htA, ht60, htv⟩, hlA, hl60, hlv⟩ := id P
  obtain ⟨g0, hg0⟩ := H.Bq
  refine ⟨_, fun h' => h' = _, _, 9, 0, 0, by decide, by decide, Nat.zero_le _, Nat.zero_le _, vi, fun h' e => by rw [e]; exact Fr.rf.st (aM ok (by omega) (by omega)), ct_xfilled ok hst H hg0, ?_⟩
  rintro h' rfl
  have F : Fr (fun a => a = Ad G (1000 + 4)) h (hset h (Ad G (1000 + 4)) (eI G 8 (gpN N np g0 no))) := Fr.rf.st rfl
  have nq : ∀ j, nmU j → ¬ j = 1004 → ¬ Ad G j = Ad G (1000 + 4) := fun j hj q z => nA ok hj.lt (by omega) q z
  have nb1 : ∀ {b : Nat}, (∀ i, nmU i → Ad G i ≠ b) → ¬ b = Ad G (1000 + 4) := fun hb z => hb 1004 (Or.inr (Or.inr ⟨9, 4, by omega, Or.inl (by omega), rfl⟩)) z.symm
  have S2 := S.fr F (fun j h1 h2 => nq j (nm2' h1 h2) (by omega))
  obtain ⟨u0, u1, us, ur, uh, ui, uk, uv, u7, u9, -⟩ := C.up (Q := fun j => j = 1004) F nq
  have C2 : ClS G (hset h (Ad G (1000 + 4)) (eI G 8 (gpN N np g0 no))) N ns np no nx k Hf isv flt Sv c f d tx lx := ⟨u0 (by omega), u1 (by omega), H.gpp ok (by omega) _, ur (by omega) (by omega) (by omega), uh (by omega) (by omega), fun i hi => ui i hi (fun j _ => by omega), fun i hi => uk i hi (fun j _ => by omega), uv (fun j _ => by omega), u7 (by omega) (by omega), u9 (by omega) (by omega) (by omega) (by omega), b, b2, T.fr F (nq 10 (nm0' (by omega)) (by omega)) (nb1 T.ad), T2.fr F (nq 14 (nm0' (by omega)) (by omega)) (nb1 T2.ad), nb⟩
  obtain ⟨why', wha', beh', its', siz', att', wro', tol', Bf', cn', kd', nb', f20, f21, f22, f23, f24, f25, f26, f27, f28, f29, f30, f31⟩ := id S2
  have M := ct_filledM (l := l) (h := hset h (Ad G (1000 + 4)) (eI G 8 (gpN N np g0 no))) (sv := isv) (rem := nI k) (typ := nI tx.length) (err := if flt = -4 then -1 else flt) (lin := nI lx.length) (why := why') (wha := wha') (beh := beh') (its := its') (siz := siz') (att := att') (wro := wro') (tol := tol') (N := N) ok R.1 (cn := cn')
  rw [hset_self f29, mH_id f20 f21] at M
  refine Ct.mono M (fun w h'' q => ⟨?_, ?_⟩)
  · rw [q.1, filled_e (c := cn') (g0 := g0) R.no R.np]
  · have F2 : Fr (inB G 20 12) (hset h (Ad G (1000 + 4)) (eI G 8 (gpN N np g0 no))) h'' := by rw [q.2]; exact mH_fr (Fr.rf.st (inM (by omega) (by omega)))
    have n2 : ∀ i, 20 ≤ i → i < 32 → i ≠ 20 → i ≠ 21 → i ≠ 29 → ∀ y, (hset h (Ad G (1000 + 4)) (eI G 8 (gpN N np g0 no))) (Ad G i) = some y → h'' (Ad G i) = some y := fun i h1 h2 a1 a2 a3 y e => by
      rw [q.2]; exact hget_n (nA ok (by omega) (by omega) a2) (hget_n (nA ok (by omega) (by omega) a1) (hget_n (nA ok (by omega) (by omega) a3) e))
    have g20 : h'' (Ad G 20) = some (eMd G isv (nI k) (nI tx.length) (if flt = -4 then -1 else flt) (nI lx.length) why' wha' beh' its' siz' att' wro' tol') := by rw [q.2]; exact hget_n (nA ok (by omega) (by omega) (by omega)) hset_s
    have g21 : h'' (Ad G 21) = some (eI G 228 N) := by rw [q.2]; exact hset_s
    have g29 : h'' (Ad G 29) = some (eZ G 256 (poF N no cn' np)) := by rw [q.2]; exact hget_n (nA ok (by omega) (by omega) (by omega)) (hget_n (nA ok (by omega) (by omega) (by omega)) hset_s)
    exact ⟨⟨N, ns, np, no, nx, k, Hf, isv, flt, Sv, c, f, d, rs, ds, tx, lx, tv, lv, C2.fr ok F2, ⟨why', wha', beh', its', siz', att', wro', tol', Bf', _, kd', nb', g20, g21, n2 22 (by omega) (by omega) (by omega) (by omega) (by omega) _ f22, n2 23 (by omega) (by omega) (by omega) (by omega) (by omega) _ f23, n2 24 (by omega) (by omega) (by omega) (by omega) (by omega) _ f24, n2 25 (by omega) (by omega) (by omega) (by omega) (by omega) _ f25, n2 26 (by omega) (by omega) (by omega) (by omega) (by omega) _ f26, n2 27 (by omega) (by omega) (by omega) (by omega) (by omega) _ f27, n2 28 (by omega) (by omega) (by omega) (by omega) (by omega) _ f28, g29, n2 30 (by omega) (by omega) (by omega) (by omega) (by omega) _ f30, n2 31 (by omega) (by omega) (by omega) (by omega) (by omega) _ f31⟩, P⟩, F2.mA ok⟩
end PAIRS
