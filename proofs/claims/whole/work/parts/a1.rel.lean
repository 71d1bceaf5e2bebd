/-! ===== both sides: what their cells hold between two calls ===== -/
/-- row i of the history -/
def hRow (Hf : Nat → Int32) (i : Nat) : Nat → Int32 := fun q => Hf (228 * i + q)
/-- the class, as it stands between two calls -/
def ClS (G : Gl) (h : Hp) (N : Nat → Int32) (ns np no nx k : Nat) (Hf : Nat → Int32) (isv flt : Int32) (Sv : Nat → Int32) (c : Nat) (f d : Nat → Int32) (tx lx : List Int32) : Prop :=
  h (Ad G 0) = some (eSt G isv flt) ∧ h (Ad G 1) = some (.inr (9, [.ref (Ad G 1000), .ref (Ad G 2)])) ∧ ShW G h 1000 N ns np no ∧ RsW G h c f d ∧ HiW G h nx k ∧
  (∀ i, i < 9 → ∃ M a b e, ShW G h (100 * (i + 1)) M a b e) ∧ (∀ i, i < k → ∃ a b e, ShW G h (100 * ((nx + 9 - k + i) % 9 + 1)) (hRow Hf i) a b e) ∧ (∃ M a b e, ShW G h 1100 M a b e ∧ (¬ isv = 0 → M = Sv)) ∧
  (∃ sz g, ChW G h sz g) ∧ (∃ (cn0 a0 : Nat) (vf : Nat → Option Nat) (ff sf : Nat → Int32), h (Ad G 9) = some (eSc G (nI cn0) (nI a0)) ∧ h (Ad G 11) = some (eR G 7 10 vf) ∧ h (Ad G 12) = some (eI G 10 ff) ∧ h (Ad G 13) = some (eI G 10 sf)) ∧
  ∃ b b2, SBT G h (Ad G 10) tx b ∧ SBT G h (Ad G 14) lx b2 ∧ b ≠ b2
/-- what is no cell's -/
def Pu (N : Nat → Int32) (ns np no nx k : Nat) (Hf : Nat → Int32) (isv flt : Int32) (Sv : Nat → Int32) (c : Nat) (f d rs ds : Nat → Int32) (tx lx : List Int32) (tv lv : Nat → Int32) : Prop :=
  RI N ns np no ∧ nx < 9 ∧ k ≤ 8 ∧ (∀ i, i < k → ∃ a b e, RI (hRow Hf i) a b e) ∧ (¬ isv = 0 → ∃ a b e, RI Sv a b e) ∧ (flt = -4 ∨ ∃ p : Nat, flt = nI p ∧ p < 1000) ∧ c ≤ 3 ∧ (∀ i, i < c → rs i = f i ∧ ds i = d i ∧ ¬ f i = 0) ∧ (∀ i, c ≤ i → i < 3 → rs i = 0) ∧
  (Asc tx ∧ tx.length ≤ 60 ∧ ∀ i, i < tx.length → tv i = tx.getD i 0) ∧ Asc lx ∧ lx.length ≤ 60 ∧ ∀ i, i < lx.length → lv i = lx.getD i 0
/-- both sides hold the same -/
def Rel (G : Gl) (h : Hp) : Prop := ∃ (N : Nat → Int32) (ns np no nx k : Nat) (Hf : Nat → Int32) (isv flt : Int32) (Sv : Nat → Int32) (c : Nat) (f d rs ds : Nat → Int32) (tx lx : List Int32) (tv lv : Nat → Int32),
  ClS G h N ns np no nx k Hf isv flt Sv c f d tx lx ∧ MdS G h N k Hf rs ds isv Sv (nI tx.length) tv (if flt = -4 then -1 else flt) (nI lx.length) lv ∧ Pu N ns np no nx k Hf isv flt Sv c f d rs ds tx lx tv lv
/-- what the class may write: its own names and its texts' arrays -/
def nM (G : Gl) (a : Nat) : Prop := G.2.2.1 a ∧ a ≠ Ad G 20
/-- one call of each side, first the class's: the same answer, and both hold the same again -/
def Pair (l : Launch) (G : Gl) (M1 M2 : MM) (args : List Value) (T : Value → Prop) : Prop := ∀ h, Rel G h → ∃ (v : Value) (P : Hp → Prop) (d1 d2 mc ms : Nat), d1 ≤ 13 ∧ d2 ≤ 13 ∧ mc ≤ 10 ∧ ms ≤ 1300 ∧ T v ∧ (∀ h', P h' → Fr (nM G) h h') ∧ Ct l G M1 d1 mc ms (.ref (Ad G 0) :: args) h (fun w h' => w = some v ∧ P h') ∧ ∀ h', P h' → Ct l G M2 d2 0 0 (.ref (Ad G 20) :: args) h' (fun w h'' => w = some v ∧ Rel G h'' ∧ Fr G.2.2.1 h' h'')
def vI (v : Value) : Prop := ∃ x, v = .int x
def vF (v : Value) : Prop := ∃ x, v = .float x ∧ vf_n64 (FP.f2d x)
def vD (v : Value) : Prop := ∃ x, v = .double x
section REL
variable {l : Launch} {G : Gl} {h h' : Hp} {M M1 M2 : MM} {T : Value → Prop}
/-- where neither side's heap changes -/
theorem Pair.same {args : List Value} (k : ∀ h, Rel G h → ∃ (v : Value) (d1 d2 : Nat), d1 ≤ 13 ∧ d2 ≤ 13 ∧ T v ∧ Ct l G M1 d1 0 0 (.ref (Ad G 0) :: args) h (fun w h' => w = some v ∧ h' = h) ∧ Ct l G M2 d2 0 0 (.ref (Ad G 20) :: args) h (fun w h' => w = some v ∧ h' = h)) : Pair l G M1 M2 args T := by
  intro h R
  obtain ⟨v, d1, d2, e1, e2, t, c1, c2⟩ := k h R
  refine ⟨v, fun h' => h' = h, d1, d2, 0, 0, e1, e2, Nat.zero_le _, Nat.zero_le _, t, fun h' e => by rw [e]; exact Fr.rf, c1, fun h' e => ?_⟩
  subst e
  exact Ct.mono c2 (fun w h'' q => ⟨q.1, by rw [q.2]; exact R, by rw [q.2]; exact Fr.rf⟩)
theorem inBA (ok : Ok G) {lo n : Nat} (h : lo + n ≤ 3000) {a : Nat} (z : inB G lo n a) : G.2.2.1 a := by
  obtain ⟨i, hi, -, rfl⟩ := z
  exact aA ok (by omega)
theorem inBM (ok : Ok G) {lo n : Nat} (h : lo + n ≤ 3000) (h2 : 20 < lo ∨ lo + n ≤ 20) {a : Nat} (z : inB G lo n a) : nM G a := ⟨inBA ok h z, fun e => nB ok h (show 20 < 3000 by omega) (by omega) (e ▸ z)⟩
theorem aM (ok : Ok G) {i : Nat} (h : i < 3000) (n : i ≠ 20) : nM G (Ad G i) := ⟨aA ok h, nA ok h (by omega) n⟩
theorem Fr.mA (ok : Ok G) (F : Fr (inB G 20 12) h h') : Fr G.2.2.1 h h' := F.mo (fun a z => inBA ok (by omega) z)
theorem ofmH {d : Nat} {args : List Value} {e : va_E} {N : Nat → Int32} {v : Option Value} (e20 : h (Ad G 20) = some e) (e21 : h (Ad G 21) = some (eI G 228 N)) (k : CtR l G M d args (mH G h e N) v (mH G h e N)) : Ct l G M d 0 0 args h (fun w h' => w = v ∧ h' = h) := by
  rw [mH_id e20 e21] at k
  exact k
/-- calls of which either side reads its row alone -/
theorem Pair.rd {args : List Value} (k : ∀ (h : Hp) (N : Nat → Int32) (ns np no : Nat) (isv flt : Int32), h (Ad G 0) = some (eSt G isv flt) → ShW G h 1000 N ns np no → RI N ns np no → ∃ (v : Value) (d1 d2 : Nat), d1 ≤ 13 ∧ d2 ≤ 13 ∧ T v ∧ CtR l G M1 d1 (.ref (Ad G 0) :: args) h (some v) h ∧ ∀ (sv rem typ err lin why wha beh its siz att wro tol : Int32), CtR l G M2 d2 (.ref (Ad G 20) :: args) (mH G h (eMd G sv rem typ err lin why wha beh its siz att wro tol) N) (some v) (mH G h (eMd G sv rem typ err lin why wha beh its siz att wro tol) N)) : Pair l G M1 M2 args T := by
  refine Pair.same ?_
  rintro h ⟨N, ns, np, no, nx, k8, Hf, isv, flt, Sv, c, f, d, rs, ds, tx, lx, tv, lv, C, S, P⟩
  obtain ⟨why, wha, beh, its, siz, att, wro, tol, Bf, cn, kd, nb_, e20, e21, -⟩ := S
  obtain ⟨v, d1, d2, q1, q2, t, c1, c2⟩ := k h N ns np no isv flt C.1 C.2.2.1 P.1
  exact ⟨v, d1, d2, q1, q2, t, c1, ofmH e20 e21 (c2 _ _ _ _ _ _ _ _ _ _ _ _ _)⟩
theorem ShW.cg {N N' : Nat → Int32} {B ns np no : Nat} (H : ShW G h B N ns np no) (e : ∀ q, q < 228 → N' q = N q) : ShW G h B N' ns np no := by
  obtain ⟨h0, h1, h2, h3, h4, c1, c2, c3, b1, b2, b3, hS, hP, hO, r⟩ := H
  refine ⟨?_, h1, h2, h3, h4, (e 2 (by omega)).trans c1, (e 3 (by omega)).trans c2, (e 4 (by omega)).trans c3, b1, b2, b3, fun i hi => ?_, fun i hi => ?_, fun i hi => ?_, r⟩
  · rw [h0]; unfold eShop; rw [e 0 (by omega), e 1 (by omega), e 2 (by omega), e 3 (by omega), e 4 (by omega), e 7 (by omega), e 8 (by omega), e 11 (by omega)]
  · rw [hS i hi]; unfold sC; rw [e _ (by omega), e _ (by omega), e _ (by omega), e _ (by omega)]
  · obtain ⟨k1, k2⟩ := hP i hi
    refine ⟨by rw [e _ (by omega)]; exact k1, ?_⟩
    rw [k2]; unfold pC; rw [e (60 + 8 * i) (by omega), e (61 + 8 * i) (by omega), e (62 + 8 * i) (by omega), e (63 + 8 * i) (by omega), e (64 + 8 * i) (by omega), e (65 + 8 * i) (by omega), e (66 + 8 * i) (by omega), e (67 + 8 * i) (by omega)]
  · obtain ⟨k1, k2⟩ := hO i hi
    refine ⟨by rw [e _ (by omega)]; exact k1, ?_⟩
    rw [k2]; unfold oC; rw [e (188 + 5 * i) (by omega), e (189 + 5 * i) (by omega), e (190 + 5 * i) (by omega), e (191 + 5 * i) (by omega), e (192 + 5 * i) (by omega)]
theorem ShW.nn {N : Nat → Int32} {B ns np no : Nat} (H : ShW G h B N ns np no) : ∀ i, okI i → h (Ad G (B + i)) ≠ none := by
  obtain ⟨h0, h1, h2, h3, ⟨g, h4⟩, c1, c2, c3, b1, b2, b3, hS, hP, hO, r1, r2, r3⟩ := H
  intro i hi
  rcases hi with hi | hi | hi | hi
  · rcases (show i = 0 ∨ i = 1 ∨ i = 2 ∨ i = 3 ∨ i = 4 by omega) with rfl | rfl | rfl | rfl | rfl
    · exact some_nn h0
    · exact some_nn h1
    · exact some_nn h2
    · exact some_nn h3
    · exact some_nn h4
  · obtain ⟨a, b, c, d, k⟩ := r1 (i - 10) (by omega)
    rw [show B + 10 + (i - 10) = B + i by omega] at k
    exact some_nn k
  · obtain ⟨a, b, c, d, a1, a2, a3, a4, k⟩ := r2 (i - 30) (by omega)
    rw [show B + 30 + (i - 30) = B + i by omega] at k
    exact some_nn k
  · obtain ⟨a, b, c, d, a1, k⟩ := r3 (i - 50) (by omega)
    rw [show B + 50 + (i - 50) = B + i by omega] at k
    exact some_nn k
/-- the shop behind a call that leaves its names alone -/
theorem ShW.fo {P : Nat → Prop} {N : Nat → Int32} {B ns np no : Nat} (H : ShW G h B N ns np no) (F : Fr P h h') (hn : ∀ i, okI i → ¬ P (Ad G (B + i))) : ShW G h' B N ns np no := by
  obtain ⟨h0, h1, h2, h3, ⟨g, h4⟩, c1, c2, c3, b1, b2, b3, hS, hP, hO, r1, r2, r3⟩ := H
  have nS : ∀ i, i < 12 → ¬ P (Ad G (B + 10 + i)) := fun i hi => by rw [Nat.add_assoc]; exact hn _ (Or.inr (Or.inl (by omega)))
  have nP : ∀ i, i < 16 → ¬ P (Ad G (B + 30 + i)) := fun i hi => by rw [Nat.add_assoc]; exact hn _ (Or.inr (Or.inr (Or.inl (by omega))))
  have nO : ∀ i, i < 8 → ¬ P (Ad G (B + 50 + i)) := fun i hi => by rw [Nat.add_assoc]; exact hn _ (Or.inr (Or.inr (Or.inr (by omega))))
  refine ⟨F _ _ h0 (hn 0 (Or.inl (by omega))), F _ _ h1 (hn 1 (Or.inl (by omega))), F _ _ h2 (hn 2 (Or.inl (by omega))), F _ _ h3 (hn 3 (Or.inl (by omega))), ⟨g, F _ _ h4 (hn 4 (Or.inl (by omega)))⟩, c1, c2, c3, b1, b2, b3, fun i hi => F _ _ (hS i hi) (nS i (by omega)), fun i hi => ⟨(hP i hi).1, F _ _ (hP i hi).2 (nP i (by omega))⟩, fun i hi => ⟨(hO i hi).1, F _ _ (hO i hi).2 (nO i (by omega))⟩, fun i hi => ?_, fun i hi => ?_, fun i hi => ?_⟩
  · obtain ⟨a, b, c, d, k⟩ := r1 i hi
    exact ⟨a, b, c, d, F _ _ k (nS i hi)⟩
  · obtain ⟨a, b, c, d, a1, a2, a3, a4, k⟩ := r2 i hi
    exact ⟨a, b, c, d, a1, a2, a3, a4, F _ _ k (nP i hi)⟩
  · obtain ⟨a, b, c, d, a1, k⟩ := r3 i hi
    exact ⟨a, b, c, d, a1, F _ _ k (nO i hi)⟩
theorem nmU.lt {i : Nat} (h : nmU i) : i < 3000 := by
  rcases h with h | h | ⟨s, x, hs, hx, rfl⟩
  · omega
  · omega
  · have : x < 60 := by unfold okI at hx; omega
    omega
theorem okI.lt {i : Nat} (h : okI i) : i < 60 := by unfold okI at h; omega
theorem nmS {s i : Nat} (hs : s < 11) (hi : okI i) : nmU (100 * (s + 1) + i) := Or.inr (Or.inr ⟨s, i, hs, hi, rfl⟩)
theorem nm10 {i : Nat} (hi : okI i) : nmU (1000 + i) := nmS (s := 9) (by omega) hi
theorem nm11 {i : Nat} (hi : okI i) : nmU (1100 + i) := nmS (s := 10) (by omega) hi
theorem nm0' {i : Nat} (hi : i < 15) : nmU i := Or.inl hi
theorem nm2' {i : Nat} (h1 : 20 ≤ i) (h2 : i < 32) : nmU i := Or.inr (Or.inl ⟨h1, h2⟩)
theorem ShW.Bq {N : Nat → Int32} {B ns np no : Nat} (H : ShW G h B N ns np no) : ∃ g0, h (Ad G (B + 4)) = some (eI G 8 g0) := H.2.2.2.2.1
/-- every name that is used stands -/
theorem all_nn {N : Nat → Int32} {ns np no nx k : Nat} {Hf : Nat → Int32} {isv flt : Int32} {Sv : Nat → Int32} {c : Nat} {f d : Nat → Int32} {tx lx : List Int32} {N2 : Nat → Int32} {k2 : Nat} {Hf2 rs ds : Nat → Int32} {sv : Int32} {Sv2 : Nat → Int32} {typ : Int32} {tv : Nat → Int32} {err lin : Int32} {lv : Nat → Int32}
    (C : ClS G h N ns np no nx k Hf isv flt Sv c f d tx lx) (S : MdS G h N2 k2 Hf2 rs ds sv Sv2 typ tv err lin lv) : ∀ i, nmU i → h (Ad G i) ≠ none := by
  obtain ⟨hst, hm, H, R, HH, HR, HRr, ⟨M, ma, mb, me, HS, -⟩, ⟨sz, g, C7⟩, ⟨cn0, a0, vf, ff, sf, s9, s11, s12, s13⟩, b, b2, T, T2, nb⟩ := C
  obtain ⟨why, wha, beh, its, siz, att, wro, tol, Bf, cn, kd, nb_, e20, e21, e22, e23, e24, e25, e26, e27, e28, e29, e30, e31⟩ := S
  obtain ⟨m1, l1, f1, t1, -⟩ := T
  obtain ⟨m2, l2, f2, t2, -⟩ := T2
  intro i hi
  rcases hi with hi | hi | ⟨s, x, hs, hx, rfl⟩
  · rcases (show i = 0 ∨ i = 1 ∨ i = 2 ∨ i = 3 ∨ i = 4 ∨ i = 5 ∨ i = 6 ∨ i = 7 ∨ i = 8 ∨ i = 9 ∨ i = 10 ∨ i = 11 ∨ i = 12 ∨ i = 13 ∨ i = 14 by omega) with rfl | rfl | rfl | rfl | rfl | rfl | rfl | rfl | rfl | rfl | rfl | rfl | rfl | rfl | rfl
    · exact some_nn hst
    · exact some_nn hm
    · exact some_nn R.1
    · exact some_nn R.2.1
    · exact some_nn R.2.2
    · exact some_nn HH.1
    · exact some_nn HH.2
    · exact some_nn C7.1
    · exact some_nn C7.2
    · exact some_nn s9
    · exact some_nn t1
    · exact some_nn s11
    · exact some_nn s12
    · exact some_nn s13
    · exact some_nn t2
  · rcases (show i = 20 ∨ i = 21 ∨ i = 22 ∨ i = 23 ∨ i = 24 ∨ i = 25 ∨ i = 26 ∨ i = 27 ∨ i = 28 ∨ i = 29 ∨ i = 30 ∨ i = 31 by omega) with rfl | rfl | rfl | rfl | rfl | rfl | rfl | rfl | rfl | rfl | rfl | rfl
    · exact some_nn e20
    · exact some_nn e21
    · exact some_nn e22
    · exact some_nn e23
    · exact some_nn e24
    · exact some_nn e25
    · exact some_nn e26
    · exact some_nn e27
    · exact some_nn e28
    · exact some_nn e29
    · exact some_nn e30
    · exact some_nn e31
  · rcases Nat.lt_or_ge s 9 with z | z
    · obtain ⟨M', a', b', e', W⟩ := HR s z
      exact W.nn x hx
    · rcases (show s = 9 ∨ s = 10 by omega) with rfl | rfl
      · exact H.nn x hx
      · exact HS.nn x hx
/-- the model's cells behind a call of the class -/
theorem MdS.fr {P : Nat → Prop} {N : Nat → Int32} {k : Nat} {Hf rs ds : Nat → Int32} {sv : Int32} {Sv : Nat → Int32} {typ : Int32} {tv : Nat → Int32} {err lin : Int32} {lv : Nat → Int32} (S : MdS G h N k Hf rs ds sv Sv typ tv err lin lv) (F : Fr P h h') (n : ∀ j, 20 ≤ j → j < 32 → ¬ P (Ad G j)) : MdS G h' N k Hf rs ds sv Sv typ tv err lin lv := by
  obtain ⟨why, wha, beh, its, siz, att, wro, tol, Bf, cn, kd, nb_, e20, e21, e22, e23, e24, e25, e26, e27, e28, e29, e30, e31⟩ := S
  exact ⟨why, wha, beh, its, siz, att, wro, tol, Bf, cn, kd, nb_, F _ _ e20 (n 20 (by omega) (by omega)), F _ _ e21 (n 21 (by omega) (by omega)), F _ _ e22 (n 22 (by omega) (by omega)), F _ _ e23 (n 23 (by omega) (by omega)), F _ _ e24 (n 24 (by omega) (by omega)), F _ _ e25 (n 25 (by omega) (by omega)), F _ _ e26 (n 26 (by omega) (by omega)), F _ _ e27 (n 27 (by omega) (by omega)), F _ _ e28 (n 28 (by omega) (by omega)), F _ _ e29 (n 29 (by omega) (by omega)), F _ _ e30 (n 30 (by omega) (by omega)), F _ _ e31 (n 31 (by omega) (by omega))⟩
/-- the class's cells behind a call of the model -/
theorem ClS.fr (ok : Ok G) {N : Nat → Int32} {ns np no nx k : Nat} {Hf : Nat → Int32} {isv flt : Int32} {Sv : Nat → Int32} {c : Nat} {f d : Nat → Int32} {tx lx : List Int32} (C : ClS G h N ns np no nx k Hf isv flt Sv c f d tx lx) (F : Fr (inB G 20 12) h h') : ClS G h' N ns np no nx k Hf isv flt Sv c f d tx lx := by
  obtain ⟨hst, hm, H, R, HH, HR, HRr, ⟨M, ma, mb, me, HS, hsv⟩, ⟨sz, g, C7⟩, ⟨cn0, a0, vf, ff, sf, s9, s11, s12, s13⟩, b, b2, T, T2, nb⟩ := C
  have n0 : ∀ j, j < 3000 → (j < 20 ∨ 32 ≤ j) → ¬ inB G 20 12 (Ad G j) := fun j hj hd => nB ok (by omega) hj (by omega)
  have nT : ∀ b, (∀ i, nmU i → Ad G i ≠ b) → ¬ inB G 20 12 b := fun b hb ⟨i, hi, _, e⟩ => hb (20 + i) (Or.inr (Or.inl (by omega))) e.symm
  have sw : ∀ B M a b e, B + 60 < 3000 → 32 ≤ B → ShW G h B M a b e → ShW G h' B M a b e := fun B M a b e h1 h2 W => W.fr F (fun i hi => n0 _ (by omega) (by omega))
  refine ⟨F _ _ hst (n0 0 (by omega) (by omega)), F _ _ hm (n0 1 (by omega) (by omega)), sw _ _ _ _ _ (by omega) (by omega) H, ⟨F _ _ R.1 (n0 2 (by omega) (by omega)), F _ _ R.2.1 (n0 3 (by omega) (by omega)), F _ _ R.2.2 (n0 4 (by omega) (by omega))⟩, ⟨F _ _ HH.1 (n0 5 (by omega) (by omega)), F _ _ HH.2 (n0 6 (by omega) (by omega))⟩, fun i hi => ?_, fun i hi => ?_, ⟨M, ma, mb, me, sw _ _ _ _ _ (by omega) (by omega) HS, hsv⟩, ⟨sz, g, F _ _ C7.1 (n0 7 (by omega) (by omega)), F _ _ C7.2 (n0 8 (by omega) (by omega))⟩,
    ⟨cn0, a0, vf, ff, sf, F _ _ s9 (n0 9 (by omega) (by omega)), F _ _ s11 (n0 11 (by omega) (by omega)), F _ _ s12 (n0 12 (by omega) (by omega)), F _ _ s13 (n0 13 (by omega) (by omega))⟩, b, b2, T.fr F (n0 10 (by omega) (by omega)) ?_, T2.fr F (n0 14 (by omega) (by omega)) ?_, nb⟩
  · obtain ⟨M', a', b', e', W⟩ := HR i hi
    exact ⟨M', a', b', e', sw _ _ _ _ _ (by omega) (by omega) W⟩
  · obtain ⟨a', b', e', W⟩ := HRr i hi
    exact ⟨a', b', e', sw _ _ _ _ _ (by omega) (by omega) W⟩
  · obtain ⟨m1, l1, f1, t1, t2, t3, t4, t5, t6, t7, t8, t9⟩ := T; exact nT b t9
  · obtain ⟨m1, l1, f1, t1, t2, t3, t4, t5, t6, t7, t8, t9⟩ := T2; exact nT b2 t9
theorem SBT.ad {a b : Nat} {tx : List Int32} (T : SBT G h a tx b) : ∀ i, nmU i → Ad G i ≠ b := by obtain ⟨m1, l1, f1, t1, t2, t3, t4, t5, t6, t7, t8, t9⟩ := T; exact t9
theorem SBT.bA {a b : Nat} {tx : List Int32} (T : SBT G h a tx b) : G.2.2.1 b := by obtain ⟨m1, l1, f1, t1, t2, t3, t4, t5, t6, t7, t8, t9⟩ := T; exact t4
theorem SBT.bn {a b : Nat} {tx : List Int32} (T : SBT G h a tx b) : h b ≠ none := by obtain ⟨m1, l1, f1, t1, t2, -⟩ := T; exact some_nn t2
/-- a place of the class's that is none of the shops', and no text's -/
theorem nB60 (ok : Ok G) {lo j : Nat} (h1 : 100 ≤ lo) (h2 : lo + 60 ≤ 3000) (hj : j < 100) : ¬ inB G lo 60 (Ad G j) := nB ok h2 (by omega) (by omega)
/-- the class's cells behind a call of its own: what does not change -/
theorem ClS.up {P : Nat → Prop} {Q : Nat → Prop} {N : Nat → Int32} {ns np no nx k : Nat} {Hf : Nat → Int32} {isv flt : Int32} {Sv : Nat → Int32} {c : Nat} {f d : Nat → Int32} {tx lx : List Int32} (C : ClS G h N ns np no nx k Hf isv flt Sv c f d tx lx) (F : Fr P h h') (nq : ∀ j, nmU j → ¬ Q j → ¬ P (Ad G j)) :
    (¬ Q 0 → h' (Ad G 0) = some (eSt G isv flt)) ∧ (¬ Q 1 → h' (Ad G 1) = some (.inr (9, [.ref (Ad G 1000), .ref (Ad G 2)]))) ∧ ((∀ j, j < 60 → ¬ Q (1000 + j)) → ShW G h' 1000 N ns np no) ∧ (¬ Q 2 → ¬ Q 3 → ¬ Q 4 → RsW G h' c f d) ∧ (¬ Q 5 → ¬ Q 6 → HiW G h' nx k) ∧
    (∀ i, i < 9 → (∀ j, j < 60 → ¬ Q (100 * (i + 1) + j)) → ∃ M a b e, ShW G h' (100 * (i + 1)) M a b e) ∧ (∀ i, i < k → (∀ j, j < 60 → ¬ Q (100 * ((nx + 9 - k + i) % 9 + 1) + j)) → ∃ a b e, ShW G h' (100 * ((nx + 9 - k + i) % 9 + 1)) (hRow Hf i) a b e) ∧ ((∀ j, j < 60 → ¬ Q (1100 + j)) → ∃ M a b e, ShW G h' 1100 M a b e ∧ (¬ isv = 0 → M = Sv)) ∧
    (¬ Q 7 → ¬ Q 8 → ∃ sz g, ChW G h' sz g) ∧ (¬ Q 9 → ¬ Q 11 → ¬ Q 12 → ¬ Q 13 → ∃ (cn0 a0 : Nat) (vf : Nat → Option Nat) (ff sf : Nat → Int32), h' (Ad G 9) = some (eSc G (nI cn0) (nI a0)) ∧ h' (Ad G 11) = some (eR G 7 10 vf) ∧ h' (Ad G 12) = some (eI G 10 ff) ∧ h' (Ad G 13) = some (eI G 10 sf)) ∧
    ∃ b b2, SBT G h (Ad G 10) tx b ∧ SBT G h (Ad G 14) lx b2 ∧ b ≠ b2 ∧ (¬ Q 10 → ¬ P b → SBT G h' (Ad G 10) tx b) ∧ (¬ Q 14 → ¬ P b2 → SBT G h' (Ad G 14) lx b2) := by
  obtain ⟨hst, hm, H, R, HH, HR, HRr, ⟨M, ma, mb, me, HS, hsv⟩, ⟨sz, g, C7⟩, ⟨cn0, a0, vf, ff, sf, s9, s11, s12, s13⟩, b, b2, T, T2, nb⟩ := C
  refine ⟨fun q => F _ _ hst (nq _ (nm0' (by omega)) q), fun q => F _ _ hm (nq _ (nm0' (by omega)) q), fun q => H.fo F (fun i hi => nq _ (nm10 hi) (q i hi.lt)), fun q2 q3 q4 => ⟨F _ _ R.1 (nq _ (nm0' (by omega)) q2), F _ _ R.2.1 (nq _ (nm0' (by omega)) q3), F _ _ R.2.2 (nq _ (nm0' (by omega)) q4)⟩, fun q5 q6 => ⟨F _ _ HH.1 (nq _ (nm0' (by omega)) q5), F _ _ HH.2 (nq _ (nm0' (by omega)) q6)⟩, fun i hi q => ?_, fun i hi q => ?_, fun q => ⟨M, ma, mb, me, HS.fo F (fun i hi => nq _ (nm11 hi) (q i hi.lt)), hsv⟩,
    fun q7 q8 => ⟨sz, g, F _ _ C7.1 (nq _ (nm0' (by omega)) q7), F _ _ C7.2 (nq _ (nm0' (by omega)) q8)⟩, fun q9 q11 q12 q13 => ⟨cn0, a0, vf, ff, sf, F _ _ s9 (nq _ (nm0' (by omega)) q9), F _ _ s11 (nq _ (nm0' (by omega)) q11), F _ _ s12 (nq _ (nm0' (by omega)) q12), F _ _ s13 (nq _ (nm0' (by omega)) q13)⟩, b, b2, T, T2, nb, fun q n => T.fr F (nq _ (nm0' (by omega)) q) n, fun q n => T2.fr F (nq _ (nm0' (by omega)) q) n⟩
  · obtain ⟨M', a', b', e', W⟩ := HR i hi
    exact ⟨M', a', b', e', W.fo F (fun j hj => nq _ (nmS (by omega) hj) (q j hj.lt))⟩
  · obtain ⟨a', b', e', W⟩ := HRr i hi
    exact ⟨a', b', e', W.fo F (fun j hj => nq _ (nmS (by omega) hj) (q j hj.lt))⟩
end REL
