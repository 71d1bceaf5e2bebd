/-! ===== literals ===== -/
theorem t_1 : Int32.toInt 1 = 1 := rfl
theorem t_2 : Int32.toInt 2 = 2 := rfl
theorem t_3 : Int32.toInt 3 = 3 := rfl
theorem t_4 : Int32.toInt 4 = 4 := rfl
theorem t_5 : Int32.toInt 5 = 5 := rfl
theorem t_6 : Int32.toInt 6 = 6 := rfl
theorem t_7 : Int32.toInt 7 = 7 := rfl
theorem t_8 : Int32.toInt 8 = 8 := rfl
theorem t_9 : Int32.toInt 9 = 9 := rfl
theorem t_10 : Int32.toInt 10 = 10 := rfl
theorem t_11 : Int32.toInt 11 = 11 := rfl
theorem t_12 : Int32.toInt 12 = 12 := rfl
theorem t_13 : Int32.toInt 13 = 13 := rfl
theorem t_14 : Int32.toInt 14 = 14 := rfl
theorem t_16 : Int32.toInt 16 = 16 := rfl
theorem t_20 : Int32.toInt 20 = 20 := rfl
theorem t_30 : Int32.toInt 30 = 30 := rfl
theorem t_32 : Int32.toInt 32 = 32 := rfl
theorem t_48 : Int32.toInt 48 = 48 := rfl
theorem t_50 : Int32.toInt 50 = 50 := rfl
theorem t_57 : Int32.toInt 57 = 57 := rfl
theorem t_60 : Int32.toInt 60 = 60 := rfl
theorem t_90 : Int32.toInt 90 = 90 := rfl
theorem t_99 : Int32.toInt 99 = 99 := rfl
theorem t_120 : Int32.toInt 120 = 120 := rfl
theorem t_126 : Int32.toInt 126 = 126 := rfl
theorem t_m1 : Int32.toInt (-1) = -1 := rfl
theorem t_m2 : Int32.toInt (-2) = -2 := rfl
theorem t_m3 : Int32.toInt (-3) = -3 := rfl
theorem t_m4 : Int32.toInt (-4) = -4 := rfl
/-! ===== the deeds, as what they make of a row of numbers ===== -/
abbrev Out : Type := Int32 ⊕ ((Int32 × Int32 × Int32 × Int32) ⊕ (Int32 × (Nat → Int32)))
abbrev cod (c : Int32) : Out := .inl c
abbrev rfs (w d b i : Int32) : Out := .inr (.inl (w, d, b, i))
abbrev okk (v : Int32) (N : Nat → Int32) : Out := .inr (.inr (v, N))
def ansC : Out → Int32
  | .inl c => c
  | .inr (.inl _) => -3
  | .inr (.inr q) => q.1
theorem upd_ne {f : Nat → Int32} {i j : Nat} {x : Int32} (h : j ≠ i) : upd f i x j = f j := if_neg h
theorem upd_eq {f : Nat → Int32} {i j : Nat} {x : Int32} (h : j = i) : upd f i x j = x := if_pos h
theorem va_u_ne {f : Nat → va_E} {i j : Nat} {x : va_E} (h : j ≠ i) : va_u f i x j = f j := if_neg h
theorem va_u_eq {f : Nat → va_E} {i j : Nat} {x : va_E} (h : j = i) : va_u f i x j = x := if_pos h
def pSheet (N : Nat → Int32) (g a : Int32) : Out :=
  if g < 1 ∨ 9 < g ∨ a < 10 ∨ 60 < a then cod (-2) else
  if N 2 = 12 then rfs 1 12 0 0 else
  if N 0 < g then rfs 2 (g - N 0) 0 0 else
  okk (N 2) (upd (upd (upd (upd (upd (upd (upd N 0 (N 0 - g)) 10 (N 10 + g)) (12 + 4 * kOf (N 2)) g) (12 + 4 * kOf (N 2) + 1) a) (12 + 4 * kOf (N 2) + 2) 0) (12 + 4 * kOf (N 2) + 3) a) 2 (N 2 + 1))
def pRaise (N : Nat → Int32) (s k : Int32) : Out :=
  if ¬ (0 ≤ s ∧ s < N 2) then cod (-1) else
  if ¬ (0 ≤ k ∧ k < 3) then cod (-2) else
  if N 3 = 16 then rfs 1 16 0 0 else
  if N (13 + 4 * kOf s) < kArea (kOf k) then rfs 3 (kArea (kOf k) - N (13 + 4 * kOf s)) 0 0 else
  okk (N 3) (upd (upd (upd (upd (upd (upd (upd (upd (upd (upd (upd N (13 + 4 * kOf s) (N (13 + 4 * kOf s) - kArea (kOf k))) (14 + 4 * kOf s) (N (14 + 4 * kOf s) + 1)) (60 + 8 * kOf (N 3)) k) (61 + 8 * kOf (N 3)) (N (12 + 4 * kOf s))) (62 + 8 * kOf (N 3)) 0) (63 + 8 * kOf (N 3)) 0) (64 + 8 * kOf (N 3)) 0) (65 + 8 * kOf (N 3)) 0) (66 + 8 * kOf (N 3)) (-4)) (67 + 8 * kOf (N 3)) s) 3 (N 3 + 1))
/-- why no work is done on a pot -/
def hinK (N : Nat → Int32) (p : Int32) (els : Out) : Out :=
  if ¬ soldK (N (66 + 8 * kOf p)) = 0 then rfs 4 (N (66 + 8 * kOf p)) 0 0 else
  if ¬ crackedK (kOf (N (60 + 8 * kOf p))) (N (61 + 8 * kOf p)) (N (62 + 8 * kOf p)) = 0 then rfs 5 p 0 0 else els
def pHit (N : Nat → Int32) (p x : Int32) : Out :=
  if ¬ (0 ≤ p ∧ p < N 3) then cod (-1) else
  if x < 1 ∨ 99 < x then cod (-2) else
  hinK N p (okk (thickK (kOf (N (60 + 8 * kOf p))) (N (61 + 8 * kOf p)) (N (62 + 8 * kOf p) + x)) (upd (upd N (62 + 8 * kOf p) (N (62 + 8 * kOf p) + x)) 5 (N 5 + x)))
def pBars (N : Nat → Int32) (x : Int32) : Out :=
  if x < 1 ∨ 50 < x then cod (-2) else
  if N 0 < x then rfs 2 (x - N 0) 0 0 else
  okk (N 1 + x) (upd (upd (upd (upd N 0 (N 0 - x)) 10 (N 10 + x)) 1 (N 1 + x)) 11 (N 11 + x))
def pTin (N : Nat → Int32) (p x : Int32) : Out :=
  if ¬ (0 ≤ p ∧ p < N 3) then cod (-1) else
  if x < 1 ∨ 9 < x then cod (-2) else
  hinK N p (
  if N (62 + 8 * kOf p) < kSm (kOf (N (60 + 8 * kOf p))) then rfs 6 (mx (kSm (kOf (N (60 + 8 * kOf p))) - N (62 + 8 * kOf p)) 0) 0 0 else
  if 9 < N (63 + 8 * kOf p) + x then rfs 7 (N (63 + 8 * kOf p) + x) 0 0 else
  if N 1 < (kArea (kOf (N (60 + 8 * kOf p))) * x + 3) / 4 then rfs 8 ((kArea (kOf (N (60 + 8 * kOf p))) * x + 3) / 4 - N 1) 0 0 else
  okk (N (63 + 8 * kOf p) + x) (upd (upd (upd (upd N (63 + 8 * kOf p) (N (63 + 8 * kOf p) + x)) 1 (N 1 - (kArea (kOf (N (60 + 8 * kOf p))) * x + 3) / 4)) 8 (N 8 + (kArea (kOf (N (60 + 8 * kOf p))) * x + 3) / 4)) 7 (N 7 + x)))
/-- how many tins are worn by meals -/
def wornK (k : Nat) (t r x : Int32) : Nat := min (kOf t) ((kOf r + kOf x) / kMealN k)
def pCook (N : Nat → Int32) (p x : Int32) : Out :=
  if ¬ (0 ≤ p ∧ p < N 3) then cod (-1) else
  if x < 1 ∨ 99 < x then cod (-2) else
  hinK N p (
  if N (63 + 8 * kOf p) = 0 then rfs 9 p 0 0 else
  okk (nI (kOf (N (63 + 8 * kOf p)) - wornK (kOf (N (60 + 8 * kOf p))) (N (63 + 8 * kOf p)) (N (65 + 8 * kOf p)) x)) (upd (upd (upd (upd N (63 + 8 * kOf p) (nI (kOf (N (63 + 8 * kOf p)) - wornK (kOf (N (60 + 8 * kOf p))) (N (63 + 8 * kOf p)) (N (65 + 8 * kOf p)) x))) (65 + 8 * kOf p) (if kOf (N (63 + 8 * kOf p)) - wornK (kOf (N (60 + 8 * kOf p))) (N (63 + 8 * kOf p)) (N (65 + 8 * kOf p)) x = 0 then 0 else nI (kOf (N (65 + 8 * kOf p)) + kOf x - wornK (kOf (N (60 + 8 * kOf p))) (N (63 + 8 * kOf p)) (N (65 + 8 * kOf p)) x * kMealN (kOf (N (60 + 8 * kOf p)))))) (64 + 8 * kOf p) (N (64 + 8 * kOf p) + x)) 6 (N 6 + x)))
def pBaker (N : Nat → Int32) (k t p : Int32) : Out :=
  if ¬ (0 ≤ k ∧ k < 3) ∨ t < 1 ∨ 9 < t ∨ p < 1 ∨ 99 < p then cod (-2) else
  if N 4 = 8 then rfs 1 8 0 0 else
  okk (N 4) (upd (upd (upd (upd (upd (upd N (188 + 5 * kOf (N 4)) k) (189 + 5 * kOf (N 4)) t) (190 + 5 * kOf (N 4)) p) (191 + 5 * kOf (N 4)) (-4)) (192 + 5 * kOf (N 4)) 0) 4 (N 4 + 1))
def lackN (N : Nat → Int32) (i j : Nat) : Int32 := lackK (kOf (N (60 + 8 * i))) (kOf (N (188 + 5 * j))) (N (61 + 8 * i)) (N (62 + 8 * i)) (N (63 + 8 * i)) (N (64 + 8 * i)) (N (189 + 5 * j))
def detN (N : Nat → Int32) (i j : Nat) : Int32 := if lackN N i j = 12 then kNum (kOf (N (60 + 8 * i))) else if lackN N i j = 6 then mx (kSm (kOf (N (60 + 8 * i))) - N (62 + 8 * i)) 0 else if lackN N i j = 13 then tinK (N (64 + 8 * i)) (N (189 + 5 * j)) - N (63 + 8 * i) else nI i
def pSell (N : Nat → Int32) (p o : Int32) : Out :=
  if ¬ ((0 ≤ p ∧ p < N 3) ∧ (0 ≤ o ∧ o < N 4)) then cod (-1) else
  if ¬ soldK (N (191 + 5 * kOf o)) = 0 then rfs 10 (N (191 + 5 * kOf o)) 0 0 else
  if ¬ soldK (N (66 + 8 * kOf p)) = 0 then rfs 4 (N (66 + 8 * kOf p)) 0 0 else
  if ¬ lackN N (kOf p) (kOf o) = 0 then rfs 11 p (lackN N (kOf p) (kOf o)) (detN N (kOf p) (kOf o)) else
  okk (N 0 + payK (N (64 + 8 * kOf p)) (N (190 + 5 * kOf o))) (upd (upd (upd (upd (upd N (66 + 8 * kOf p) o) (191 + 5 * kOf o) p) (192 + 5 * kOf o) (payK (N (64 + 8 * kOf p)) (N (190 + 5 * kOf o)))) 0 (N 0 + payK (N (64 + 8 * kOf p)) (N (190 + 5 * kOf o)))) 9 (N 9 + payK (N (64 + 8 * kOf p)) (N (190 + 5 * kOf o))))
/-- what the class's cells hold after a deed -/
def SmP (G : Gl) (h : Hp) (o : Out) (N : Nat → Int32) (ns np no c : Nat) (f d : Nat → Int32) (h' : Hp) : Prop := match o with
  | .inl _ => h' = h
  | .inr (.inl (w, dd, b, i)) => (∃ f' d', (b = 0 → RsW G h' 1 f' d') ∧ (¬ b = 0 → RsW G h' 2 f' d' ∧ f' 1 = b ∧ d' 1 = i) ∧ f' 0 = w ∧ d' 0 = dd) ∧ Fr (inB G 2 3) h h'
  | .inr (.inr (_, N')) => (∃ ns' np' no', ShW G h' 1000 N' ns' np' no') ∧ Fr (inB G 1000 60) h h'
theorem ShW.mk2 {G : Gl} {h' : Hp} {B : Nat} {N N' : Nat → Int32} {ns np no ns' np' no' : Nat} {gp : Nat → Int32} {fs fp fo fs' fp' fo' : Nat → va_E} (S : Sh G h' B (eShop G B N') gp fs' fp' fo') (F : PF G N ns np no fs fp fo)
    (c : N' 2 = nI ns' ∧ N' 3 = nI np' ∧ N' 4 = nI no' ∧ ns' ≤ 12 ∧ np' ≤ 16 ∧ no' ≤ 8)
    (hs : ∀ i, i < 12 → (fs' i = fs i ∧ (i < ns' → i < ns ∧ ∀ q, q < 4 → N' (12 + 4 * i + q) = N (12 + 4 * i + q))) ∨ fs' i = sC N' i)
    (hp : ∀ i, i < 16 → (fp' i = fp i ∧ (i < np' → i < np ∧ ∀ q, q < 8 → N' (60 + 8 * i + q) = N (60 + 8 * i + q))) ∨ (fp' i = pC G N' i ∧ kOf (N' (60 + 8 * i)) < 3))
    (ho : ∀ i, i < 8 → (fo' i = fo i ∧ (i < no' → i < no ∧ ∀ q, q < 5 → N' (188 + 5 * i + q) = N (188 + 5 * i + q))) ∨ (fo' i = oC G N' i ∧ kOf (N' (188 + 5 * i)) < 3)) : ShW G h' B N' ns' np' no' := by
  obtain ⟨c1, c2, c3, b1, b2, b3, fS, fP, fO, X1, X2, X3⟩ := F
  obtain ⟨d1, d2, d3, d4, d5, d6⟩ := c
  refine S.w ⟨d1, d2, d3, d4, d5, d6, fun i hi => ?_, fun i hi => ?_, fun i hi => ?_, fun i hi => ?_, fun i hi => ?_, fun i hi => ?_⟩
  · rcases hs i (by omega) with ⟨e, k⟩ | e
    · obtain ⟨k1, k2⟩ := k hi
      rw [e, fS i k1]
      have g0 := k2 0 (by omega); have g1 := k2 1 (by omega); have g2 := k2 2 (by omega); have g3 := k2 3 (by omega)
      unfold sC
      rw [show 15 + 4 * i = 12 + 4 * i + 3 by omega, show 13 + 4 * i = 12 + 4 * i + 1 by omega, show 14 + 4 * i = 12 + 4 * i + 2 by omega, g1, g2, g3]
      rw [show 12 + 4 * i + 0 = 12 + 4 * i from rfl] at g0
      rw [g0]
    · exact e
  · rcases hp i (by omega) with ⟨e, k⟩ | e
    · obtain ⟨k1, k2⟩ := k hi
      have g0 := k2 0 (by omega); have g1 := k2 1 (by omega); have g2 := k2 2 (by omega); have g3 := k2 3 (by omega); have g4 := k2 4 (by omega); have g5 := k2 5 (by omega); have g6 := k2 6 (by omega); have g7 := k2 7 (by omega)
      rw [show 60 + 8 * i + 0 = 60 + 8 * i from rfl] at g0
      rw [g0, e, (fP i k1).2]
      refine ⟨(fP i k1).1, ?_⟩
      unfold pC
      rw [show 67 + 8 * i = 60 + 8 * i + 7 by omega, show 61 + 8 * i = 60 + 8 * i + 1 by omega, show 62 + 8 * i = 60 + 8 * i + 2 by omega, show 63 + 8 * i = 60 + 8 * i + 3 by omega, show 65 + 8 * i = 60 + 8 * i + 5 by omega, show 64 + 8 * i = 60 + 8 * i + 4 by omega, show 66 + 8 * i = 60 + 8 * i + 6 by omega, g0, g1, g2, g3, g4, g5, g6, g7]
    · exact ⟨e.2, e.1⟩
  · rcases ho i (by omega) with ⟨e, k⟩ | e
    · obtain ⟨k1, k2⟩ := k hi
      have g0 := k2 0 (by omega); have g1 := k2 1 (by omega); have g2 := k2 2 (by omega); have g3 := k2 3 (by omega); have g4 := k2 4 (by omega)
      rw [show 188 + 5 * i + 0 = 188 + 5 * i from rfl] at g0
      rw [g0, e, (fO i k1).2]
      refine ⟨(fO i k1).1, ?_⟩
      unfold oC
      rw [show 189 + 5 * i = 188 + 5 * i + 1 by omega, show 190 + 5 * i = 188 + 5 * i + 2 by omega, show 191 + 5 * i = 188 + 5 * i + 3 by omega, show 192 + 5 * i = 188 + 5 * i + 4 by omega, g0, g1, g2, g3, g4]
    · exact ⟨e.2, e.1⟩
  · rcases hs i hi with ⟨e, -⟩ | e
    · rw [e]; exact X1 i hi
    · exact ⟨_, _, _, _, e⟩
  · rcases hp i hi with ⟨e, -⟩ | e
    · rw [e]; exact X2 i hi
    · exact ⟨_, _, _, _, _, _, _, _, e.1⟩
  · rcases ho i hi with ⟨e, -⟩ | e
    · rw [e]; exact X3 i hi
    · exact ⟨_, _, _, _, _, e.1⟩
def wkK (k : Nat) (g b o : Int32) : Int32 := if ¬ soldK o = 0 then 0 else if ¬ crackedK k g b = 0 then 0 else 1
theorem wkK_c (k : Nat) (g b o : Int32) : wkK k g b o = 0 ∨ wkK k g b o = 1 := by unfold wkK; split; exact Or.inl rfl; split; exact Or.inl rfl; exact Or.inr rfl
set_option maxRecDepth 100000 in
set_option maxHeartbeats 4000000 in
theorem ct_X9_isWorkable {l : Launch} {G : Gl} {h : Hp} {N : Nat → Int32} {ns np no c : Nat} {f d : Nat → Int32} (ok : Ok G) (H : ShW G h 1000 N ns np no) (R : RsW G h c f d) (hm : h (Ad G 1) = some (.inr (9, [.ref (Ad G 1000), .ref (Ad G 2)]))) {i : Nat} (hi : i < np) : CtP l G mX9_isWorkable 3 (0) (0) [.ref (Ad G 1), .ref (Ad G (1000 + 30 + i))] h (some (.int (wkK (kOf (N (60 + 8 * i))) (N (61 + 8 * i)) (N (62 + 8 * i)) (N (66 + 8 * i))))) (fun h' => (wkK (kOf (N (60 + 8 * i))) (N (61 + 8 * i)) (N (62 + 8 * i)) (N (66 + 8 * i)) = 1 ∧ h' = h ∧ ∀ els, hinK N (nI i) els = els) ∨ (wkK (kOf (N (60 + 8 * i))) (N (61 + 8 * i)) (N (62 + 8 * i)) (N (66 + 8 * i)) = 0 ∧ ∃ w dd, (∀ els, hinK N (nI i) els = rfs w dd 0 0) ∧ (∃ f' d', RsW G h' 1 f' d' ∧ f' 0 = w ∧ d' 0 = dd) ∧ Fr (inB G 2 3) h h')) := by
  obtain ⟨hsh, has, hap, hao, -, hns, hnp, hno, bs, bp, bo, hS, hP, hO, -⟩ := id H
  obtain ⟨gp, fs, fp, fo, S0, F0⟩ := id H.sh
  have hr2 := R.1
  have tns : (N 2).toInt = ns := by rw [hns]; exact nI_toInt (by omega)
  have tnp : (N 3).toInt = np := by rw [hnp]; exact nI_toInt (by omega)
  have tno : (N 4).toInt = no := by rw [hno]; exact nI_toInt (by omega)
  obtain ⟨hk, hp⟩ := hP i hi
  have hcl := kOf_nI (j := i) (by omega)
  refine Ct.of (L := [(0, _), (1, _)]) (by decide) (ble rfl) rfl ?_
  first | refine x_aload_n 1 dX9_isWorkable_0 rfl rfl ?_ | refine x_aload_nN 1 dX9_isWorkable_0 rfl rfl ?_
  refine x_cV1 (As := []) (ct_X4_isSold (by with_reducible repeat first | assumption | exact hset_s | refine hget_n (by first | assumption | exact Ne.symm (by assumption) | exact nA (by assumption) (by omega) (by omega) (by omega)) ?_)) vX9_149 rfl (x_recv (by with_reducible repeat first | assumption | exact hset_s | refine hget_n (by first | assumption | exact Ne.symm (by assumption) | exact nA (by assumption) (by omega) (by omega) (by omega)) ?_) rfl) rfl ⟨ble rfl, ble rfl⟩ (ble rfl) dX9_isWorkable_1 rfl ?_
  refine x_if_eq 22 dX9_isWorkable_4 (by decide) (fun c4 => ?_) (fun c4 => ?_)
  · first | refine x_aload_n 1 dX9_isWorkable_22 rfl rfl ?_ | refine x_aload_nN 1 dX9_isWorkable_22 rfl rfl ?_
    refine x_cV1 (As := []) (ct_X4_isCracked (by with_reducible repeat first | assumption | exact hset_s | refine hget_n (by first | assumption | exact Ne.symm (by assumption) | exact nA (by assumption) (by omega) (by omega) (by omega)) ?_) (by assumption)) vX9_221 rfl (x_recv (by with_reducible repeat first | assumption | exact hset_s | refine hget_n (by first | assumption | exact Ne.symm (by assumption) | exact nA (by assumption) (by omega) (by omega) (by omega)) ?_) rfl) rfl ⟨ble rfl, ble rfl⟩ (ble rfl) dX9_isWorkable_23 rfl ?_
    refine x_if_eq 44 dX9_isWorkable_26 (by decide) (fun c26 => ?_) (fun c26 => ?_)
    · refine x_iconst (v := 1) dX9_isWorkable_44 rfl ?_
      refine x_zret rfl (by first | rfl | (split <;> rfl) | (unfold b2i; split <;> rfl)) dX9_isWorkable_45 ?_
      have ew : wkK (kOf (N (60 + 8 * i))) (N (61 + 8 * i)) (N (62 + 8 * i)) (N (66 + 8 * i)) = 1 := by unfold wkK; rw [if_neg (fun q => q c4), if_neg (fun q => q c26)]
      rw [ew]
      exact ⟨rfl, Or.inl ⟨rfl, rfl, fun els => by unfold hinK; rw [hcl, if_neg (fun q => q c4), if_neg (fun q => q c26)]⟩⟩
    · first | refine x_aload_n 0 dX9_isWorkable_29 rfl rfl ?_ | refine x_aload_nN 0 dX9_isWorkable_29 rfl rfl ?_
      refine x_get fX9_21 rfl dX9_isWorkable_30 (by with_reducible repeat first | assumption | exact hset_s | refine hget_n (by first | assumption | exact Ne.symm (by assumption) | exact nA (by assumption) (by omega) (by omega) (by omega)) ?_) (by rfl) ?_
      refine x_iconst (v := 5) dX9_isWorkable_33 rfl ?_
      first | refine x_aload_n 1 dX9_isWorkable_34 rfl rfl ?_ | refine x_aload_nN 1 dX9_isWorkable_34 rfl rfl ?_
      refine x_get fX9_224 rfl dX9_isWorkable_35 (by with_reducible repeat first | assumption | exact hset_s | refine hget_n (by first | assumption | exact Ne.symm (by assumption) | exact nA (by assumption) (by omega) (by omega) (by omega)) ?_) (by rfl) ?_
      refine x_pV1 (mc1 := 0) (ms1 := 0) (As := [.int _, .int _]) (ct_X5_refuse (by assumption) (by assumption) _ _) vX9_29 rfl (x_recv (by with_reducible repeat first | assumption | exact hset_s | refine hget_n (by first | assumption | exact Ne.symm (by assumption) | exact nA (by assumption) (by omega) (by omega) (by omega)) ?_) rfl) rfl ⟨ble rfl, ble rfl⟩ (ble rfl) dX9_isWorkable_38 rfl ⟨by omega, by omega⟩ (fun h38 q38 => ?_)
      obtain ⟨f1, d1, R1, r1, r2, F1⟩ := q38
      have hm1 := F1 _ _ hm (nB ok (by omega) (by omega) (by omega))
      refine x_pop dX9_isWorkable_41 rfl ?_
      refine x_iconst (v := 0) dX9_isWorkable_42 rfl ?_
      refine x_zret rfl (by first | rfl | (split <;> rfl) | (unfold b2i; split <;> rfl)) dX9_isWorkable_43 ?_
      have ew : wkK (kOf (N (60 + 8 * i))) (N (61 + 8 * i)) (N (62 + 8 * i)) (N (66 + 8 * i)) = 0 := by unfold wkK; rw [if_neg (fun q => q c4), if_pos c26]
      rw [ew]
      exact ⟨rfl, Or.inr ⟨rfl, 5, nI i, fun els => by unfold hinK; rw [hcl, if_neg (fun q => q c4), if_pos c26], ⟨f1, d1, R1, r1, r2⟩, F1⟩⟩
  · first | refine x_aload_n 0 dX9_isWorkable_7 rfl rfl ?_ | refine x_aload_nN 0 dX9_isWorkable_7 rfl rfl ?_
    refine x_get fX9_21 rfl dX9_isWorkable_8 (by with_reducible repeat first | assumption | exact hset_s | refine hget_n (by first | assumption | exact Ne.symm (by assumption) | exact nA (by assumption) (by omega) (by omega) (by omega)) ?_) (by rfl) ?_
    refine x_iconst (v := 4) dX9_isWorkable_11 rfl ?_
    first | refine x_aload_n 1 dX9_isWorkable_12 rfl rfl ?_ | refine x_aload_nN 1 dX9_isWorkable_12 rfl rfl ?_
    refine x_get fX9_152 rfl dX9_isWorkable_13 (by with_reducible repeat first | assumption | exact hset_s | refine hget_n (by first | assumption | exact Ne.symm (by assumption) | exact nA (by assumption) (by omega) (by omega) (by omega)) ?_) (by rfl) ?_
    refine x_pV1 (mc1 := 0) (ms1 := 0) (As := [.int _, .int _]) (ct_X5_refuse (by assumption) (by assumption) _ _) vX9_29 rfl (x_recv (by with_reducible repeat first | assumption | exact hset_s | refine hget_n (by first | assumption | exact Ne.symm (by assumption) | exact nA (by assumption) (by omega) (by omega) (by omega)) ?_) rfl) rfl ⟨ble rfl, ble rfl⟩ (ble rfl) dX9_isWorkable_16 rfl ⟨by omega, by omega⟩ (fun h16 q16 => ?_)
    obtain ⟨f1, d1, R1, r1, r2, F1⟩ := q16
    have hm1 := F1 _ _ hm (nB ok (by omega) (by omega) (by omega))
    refine x_pop dX9_isWorkable_19 rfl ?_
    refine x_iconst (v := 0) dX9_isWorkable_20 rfl ?_
    refine x_zret rfl (by first | rfl | (split <;> rfl) | (unfold b2i; split <;> rfl)) dX9_isWorkable_21 ?_
    have ew : wkK (kOf (N (60 + 8 * i))) (N (61 + 8 * i)) (N (62 + 8 * i)) (N (66 + 8 * i)) = 0 := by unfold wkK; rw [if_pos c4]
    rw [ew]
    exact ⟨rfl, Or.inr ⟨rfl, 4, N (66 + 8 * i), fun els => by unfold hinK; rw [hcl, if_pos c4], ⟨f1, d1, R1, r1, r2⟩, F1⟩⟩
set_option maxRecDepth 100000 in
set_option maxHeartbeats 4000000 in
theorem ct_X9_buySheet {l : Launch} {G : Gl} {h : Hp} {N : Nat → Int32} {ns np no c : Nat} {f d : Nat → Int32} (ok : Ok G) (H : ShW G h 1000 N ns np no) (R : RsW G h c f d) (hm : h (Ad G 1) = some (.inr (9, [.ref (Ad G 1000), .ref (Ad G 2)]))) (g a : Int32) : CtP l G mX9_buySheet 3 (0) (0) [.ref (Ad G 1), .int g, .int a] h (some (.int (ansC (pSheet N g a)))) (fun h' => SmP G h (pSheet N g a) N ns np no c f d h') := by
  obtain ⟨hsh, has, hap, hao, -, hns, hnp, hno, bs, bp, bo, hS, hP, hO, -⟩ := id H
  obtain ⟨gp, fs, fp, fo, S0, F0⟩ := id H.sh
  have hr2 := R.1
  have tns : (N 2).toInt = ns := by rw [hns]; exact nI_toInt (by omega)
  have tnp : (N 3).toInt = np := by rw [hnp]; exact nI_toInt (by omega)
  have tno : (N 4).toInt = no := by rw [hno]; exact nI_toInt (by omega)
  refine Ct.of (L := [(0, _), (1, _), (2, _)]) (by decide) (ble rfl) rfl ?_
  refine x_iload_n 1 dX9_buySheet_0 rfl rfl ?_
  refine x_iconst (v := 1) dX9_buySheet_1 rfl ?_
  refine x_icmp_lt 23 dX9_buySheet_2 (by decide) (fun c2 => ?_) (fun c2 => ?_)
  · refine x_bipush (v := -2) dX9_buySheet_23 rfl ?_
    refine x_iret rfl dX9_buySheet_25 ?_
    have e : pSheet N g a = cod (-2) := by unfold pSheet; (repeat' split) <;> first | rfl | (exfalso; (simp only [Int32.lt_iff_toInt_lt, Int32.le_iff_toInt_le, ← Int32.toInt_inj, Int32.toInt_zero, t_1, t_2, t_3, t_4, t_5, t_6, t_7, t_8, t_9, t_10, t_11, t_12, t_13, t_14, t_16, t_20, t_30, t_32, t_48, t_50, t_57, t_60, t_90, t_99, t_120, t_126, t_m1, t_m2, t_m3, t_m4] at *; omega))
    rw [e]
    exact ⟨rfl, rfl⟩
  · refine x_iload_n 1 dX9_buySheet_5 rfl rfl ?_
    refine x_bipush (v := 9) dX9_buySheet_6 rfl ?_
    refine x_icmp_gt 23 dX9_buySheet_8 (by decide) (fun c8 => ?_) (fun c8 => ?_)
    · refine x_bipush (v := -2) dX9_buySheet_23 rfl ?_
      refine x_iret rfl dX9_buySheet_25 ?_
      have e : pSheet N g a = cod (-2) := by unfold pSheet; (repeat' split) <;> first | rfl | (exfalso; (simp only [Int32.lt_iff_toInt_lt, Int32.le_iff_toInt_le, ← Int32.toInt_inj, Int32.toInt_zero, t_1, t_2, t_3, t_4, t_5, t_6, t_7, t_8, t_9, t_10, t_11, t_12, t_13, t_14, t_16, t_20, t_30, t_32, t_48, t_50, t_57, t_60, t_90, t_99, t_120, t_126, t_m1, t_m2, t_m3, t_m4] at *; omega))
      rw [e]
      exact ⟨rfl, rfl⟩
    · refine x_iload_n 2 dX9_buySheet_11 rfl rfl ?_
      refine x_bipush (v := 10) dX9_buySheet_12 rfl ?_
      refine x_icmp_lt 23 dX9_buySheet_14 (by decide) (fun c14 => ?_) (fun c14 => ?_)
      · refine x_bipush (v := -2) dX9_buySheet_23 rfl ?_
        refine x_iret rfl dX9_buySheet_25 ?_
        have e : pSheet N g a = cod (-2) := by unfold pSheet; (repeat' split) <;> first | rfl | (exfalso; (simp only [Int32.lt_iff_toInt_lt, Int32.le_iff_toInt_le, ← Int32.toInt_inj, Int32.toInt_zero, t_1, t_2, t_3, t_4, t_5, t_6, t_7, t_8, t_9, t_10, t_11, t_12, t_13, t_14, t_16, t_20, t_30, t_32, t_48, t_50, t_57, t_60, t_90, t_99, t_120, t_126, t_m1, t_m2, t_m3, t_m4] at *; omega))
        rw [e]
        exact ⟨rfl, rfl⟩
      · refine x_iload_n 2 dX9_buySheet_17 rfl rfl ?_
        refine x_bipush (v := 60) dX9_buySheet_18 rfl ?_
        refine x_icmp_le 26 dX9_buySheet_20 (by decide) (fun c20 => ?_) (fun c20 => ?_)
        · first | refine x_aload_n 0 dX9_buySheet_26 rfl rfl ?_ | refine x_aload_nN 0 dX9_buySheet_26 rfl rfl ?_
          refine x_get fX9_12 rfl dX9_buySheet_27 (by with_reducible repeat first | assumption | exact hset_s | refine hget_n (by first | assumption | exact Ne.symm (by assumption) | exact nA (by assumption) (by omega) (by omega) (by omega)) ?_) (by rfl) ?_
          refine x_get fX9_25 rfl dX9_buySheet_30 (by with_reducible repeat first | assumption | exact hset_s | refine hget_n (by first | assumption | exact Ne.symm (by assumption) | exact nA (by assumption) (by omega) (by omega) (by omega)) ?_) (by rfl) ?_
          refine x_istore_n (L' := [(3, _), (0, _), (1, _), (2, _)]) dX9_buySheet_33 rfl (ble rfl) rfl ?_
          refine x_iload_n 0 dX9_buySheet_34 rfl rfl ?_
          refine x_bipush (v := 12) dX9_buySheet_35 rfl ?_
          refine x_icmp_lt 51 dX9_buySheet_37 (by decide) (fun c37 => ?_) (fun c37 => ?_)
          · have hb : ns < 12 := by (simp only [Int32.lt_iff_toInt_lt, Int32.le_iff_toInt_le, ← Int32.toInt_inj, Int32.toInt_zero, t_1, t_2, t_3, t_4, t_5, t_6, t_7, t_8, t_9, t_10, t_11, t_12, t_13, t_14, t_16, t_20, t_30, t_32, t_48, t_50, t_57, t_60, t_90, t_99, t_120, t_126, t_m1, t_m2, t_m3, t_m4] at *; omega)
            first | refine x_aload_n 1 dX9_buySheet_51 rfl rfl ?_ | refine x_aload_nN 1 dX9_buySheet_51 rfl rfl ?_
            refine x_get fX9_12 rfl dX9_buySheet_52 (by with_reducible repeat first | assumption | exact hset_s | refine hget_n (by first | assumption | exact Ne.symm (by assumption) | exact nA (by assumption) (by omega) (by omega) (by omega)) ?_) (by rfl) ?_
            refine x_get fX9_33 rfl dX9_buySheet_55 (by with_reducible repeat first | assumption | exact hset_s | refine hget_n (by first | assumption | exact Ne.symm (by assumption) | exact nA (by assumption) (by omega) (by omega) (by omega)) ?_) (by rfl) ?_
            refine x_iload_n 2 dX9_buySheet_58 rfl rfl ?_
            refine x_icmp_ge 80 dX9_buySheet_59 (by decide) (fun c59 => ?_) (fun c59 => ?_)
            · first | refine x_aload_n 1 dX9_buySheet_80 rfl rfl ?_ | refine x_aload_nN 1 dX9_buySheet_80 rfl rfl ?_
              refine x_get fX9_12 rfl dX9_buySheet_81 (by with_reducible repeat first | assumption | exact hset_s | refine hget_n (by first | assumption | exact Ne.symm (by assumption) | exact nA (by assumption) (by omega) (by omega) (by omega)) ?_) (by rfl) ?_
              refine x_dup dX9_buySheet_84 rfl ?_
              refine x_get fX9_33 rfl dX9_buySheet_85 (by with_reducible repeat first | assumption | exact hset_s | refine hget_n (by first | assumption | exact Ne.symm (by assumption) | exact nA (by assumption) (by omega) (by omega) (by omega)) ?_) (by rfl) ?_
              refine x_iload_n 2 dX9_buySheet_88 rfl rfl ?_
              refine x_isub dX9_buySheet_89 ?_
              refine x_put fX9_33 rfl rfl rfl rfl dX9_buySheet_90 (by with_reducible repeat first | assumption | exact hset_s | refine hget_n (by first | assumption | exact Ne.symm (by assumption) | exact nA (by assumption) (by omega) (by omega) (by omega)) ?_) (by exact ble rfl) (by first | assumption | exact aA (by assumption) (by omega)) ?_
              first | refine x_aload_n 1 dX9_buySheet_93 rfl rfl ?_ | refine x_aload_nN 1 dX9_buySheet_93 rfl rfl ?_
              refine x_get fX9_12 rfl dX9_buySheet_94 (by with_reducible repeat first | assumption | exact hset_s | refine hget_n (by first | assumption | exact Ne.symm (by assumption) | exact nA (by assumption) (by omega) (by omega) (by omega)) ?_) (by rfl) ?_
              refine x_get fX9_36 rfl dX9_buySheet_97 (by with_reducible repeat first | assumption | exact hset_s | refine hget_n (by first | assumption | exact Ne.symm (by assumption) | exact nA (by assumption) (by omega) (by omega) (by omega)) ?_) (by rfl) ?_
              refine x_iload_n 0 dX9_buySheet_100 rfl rfl ?_
              refine x_aald 3 rfl dX9_buySheet_101 (by with_reducible repeat first | assumption | exact hset_s | refine hget_n (by first | assumption | exact Ne.symm (by assumption) | exact nA (by assumption) (by omega) (by omega) (by omega)) ?_) (by rw [hns]; exact vp_in_nI (by omega) (by omega)) (v := .ref (Ad G (1000 + 10 + ns))) (by rw [hns, nI_clamp (by omega)]; rfl) ?_
              obtain ⟨g0, fa0, ar0, ps0, hs0⟩ := F0.2.2.2.2.2.2.2.2.2.1 ns (by omega)
              have hs := (S0.2.2.2.2.2.1 ns (by omega)).trans (congrArg some hs0)
              refine x_iload_n 2 dX9_buySheet_102 rfl rfl ?_
              refine x_iload_n 3 dX9_buySheet_103 rfl rfl ?_
              refine x_cV0 (As := [.int _, .int _]) (ct_X7_arrive (by with_reducible repeat first | assumption | exact hset_s | refine hget_n (by first | assumption | exact Ne.symm (by assumption) | exact nA (by assumption) (by omega) (by omega) (by omega)) ?_) (aA ok (by omega))) vX9_40 rfl (x_recv (by with_reducible repeat first | assumption | exact hset_s | refine hget_n (by first | assumption | exact Ne.symm (by assumption) | exact nA (by assumption) (by omega) (by omega) (by omega)) ?_) rfl) rfl ⟨ble rfl, ble rfl⟩ (ble rfl) dX9_buySheet_104 rfl ?_
              first | refine x_aload_n 1 dX9_buySheet_107 rfl rfl ?_ | refine x_aload_nN 1 dX9_buySheet_107 rfl rfl ?_
              refine x_get fX9_12 rfl dX9_buySheet_108 (by with_reducible repeat first | assumption | exact hset_s | refine hget_n (by first | assumption | exact Ne.symm (by assumption) | exact nA (by assumption) (by omega) (by omega) (by omega)) ?_) (by rfl) ?_
              refine x_dup dX9_buySheet_111 rfl ?_
              refine x_get fX9_25 rfl dX9_buySheet_112 (by with_reducible repeat first | assumption | exact hset_s | refine hget_n (by first | assumption | exact Ne.symm (by assumption) | exact nA (by assumption) (by omega) (by omega) (by omega)) ?_) (by rfl) ?_
              refine x_iconst (v := 1) dX9_buySheet_115 rfl ?_
              refine x_iadd dX9_buySheet_116 ?_
              refine x_put fX9_25 rfl rfl rfl rfl dX9_buySheet_117 (by with_reducible repeat first | assumption | exact hset_s | refine hget_n (by first | assumption | exact Ne.symm (by assumption) | exact nA (by assumption) (by omega) (by omega) (by omega)) ?_) (by exact ble rfl) (by first | assumption | exact aA (by assumption) (by omega)) ?_
              refine x_iload_n 0 dX9_buySheet_120 rfl rfl ?_
              refine x_iret rfl dX9_buySheet_121 ?_
              have hk : kOf (N 2) = ns := by rw [hns]; exact kOf_nI (by omega)
              have e : pSheet N g a = okk (N 2) (upd (upd (upd (upd (upd (upd (upd N 0 (N 0 - g)) 10 (N 10 + g)) (12 + 4 * ns) g) (12 + 4 * ns + 1) a) (12 + 4 * ns + 2) 0) (12 + 4 * ns + 3) a) 2 (N 2 + 1)) := by unfold pSheet; rw [hk]; (repeat' split) <;> first | rfl | (exfalso; (simp only [Int32.lt_iff_toInt_lt, Int32.le_iff_toInt_le, ← Int32.toInt_inj, Int32.toInt_zero, t_1, t_2, t_3, t_4, t_5, t_6, t_7, t_8, t_9, t_10, t_11, t_12, t_13, t_14, t_16, t_20, t_30, t_32, t_48, t_50, t_57, t_60, t_90, t_99, t_120, t_126, t_m1, t_m2, t_m3, t_m4] at *; omega))
              rw [e]
              refine ⟨rfl, ⟨ns + 1, np, no, ShW.mk2 (((S0.shop ok (by omega) _).sheet ok (by omega) hb _).shop ok (by omega) _ |>.cg ?_ (fun _ _ => rfl) (fun _ _ => rfl) (fun _ _ => rfl)) F0 ⟨?_, ?_, ?_, ?_, by omega, by omega⟩ ?_ ?_ ?_⟩, Fr.st (Fr.st (Fr.st Fr.rf (inB_0 (by omega))) (inB_2 (by omega))) (inB_0 (by omega))⟩
              · unfold eShop; simp (disch := omega) only [upd_ne, upd_eq]; rfl
              · simp (disch := omega) only [upd_ne, upd_eq]; rw [hns]; exact nI_1 ns
              · simp (disch := omega) only [upd_ne, upd_eq]; exact hnp
              · simp (disch := omega) only [upd_ne, upd_eq]; exact hno
              · (simp only [Int32.lt_iff_toInt_lt, Int32.le_iff_toInt_le, ← Int32.toInt_inj, Int32.toInt_zero, t_1, t_2, t_3, t_4, t_5, t_6, t_7, t_8, t_9, t_10, t_11, t_12, t_13, t_14, t_16, t_20, t_30, t_32, t_48, t_50, t_57, t_60, t_90, t_99, t_120, t_126, t_m1, t_m2, t_m3, t_m4] at *; omega)
              · intro i hi; by_cases q : i = ns
                · refine Or.inr ?_; subst q; rw [va_u_eq rfl]; unfold sC; simp (disch := omega) only [upd_ne, upd_eq]
                · refine Or.inl ⟨va_u_ne q, fun hi2 => ⟨by omega, fun q2 hq2 => by simp (disch := omega) only [upd_ne, upd_eq]⟩⟩
              · intro i hi; exact Or.inl ⟨rfl, fun hi2 => ⟨hi2, fun q2 hq2 => by simp (disch := omega) only [upd_ne, upd_eq]⟩⟩
              · intro i hi; exact Or.inl ⟨rfl, fun hi2 => ⟨hi2, fun q2 hq2 => by simp (disch := omega) only [upd_ne, upd_eq]⟩⟩
            · first | refine x_aload_n 1 dX9_buySheet_62 rfl rfl ?_ | refine x_aload_nN 1 dX9_buySheet_62 rfl rfl ?_
              refine x_get fX9_21 rfl dX9_buySheet_63 (by with_reducible repeat first | assumption | exact hset_s | refine hget_n (by first | assumption | exact Ne.symm (by assumption) | exact nA (by assumption) (by omega) (by omega) (by omega)) ?_) (by rfl) ?_
              refine x_iconst (v := 2) dX9_buySheet_66 rfl ?_
              refine x_iload_n 2 dX9_buySheet_67 rfl rfl ?_
              first | refine x_aload_n 1 dX9_buySheet_68 rfl rfl ?_ | refine x_aload_nN 1 dX9_buySheet_68 rfl rfl ?_
              refine x_get fX9_12 rfl dX9_buySheet_69 (by with_reducible repeat first | assumption | exact hset_s | refine hget_n (by first | assumption | exact Ne.symm (by assumption) | exact nA (by assumption) (by omega) (by omega) (by omega)) ?_) (by rfl) ?_
              refine x_get fX9_33 rfl dX9_buySheet_72 (by with_reducible repeat first | assumption | exact hset_s | refine hget_n (by first | assumption | exact Ne.symm (by assumption) | exact nA (by assumption) (by omega) (by omega) (by omega)) ?_) (by rfl) ?_
              refine x_isub dX9_buySheet_75 ?_
              refine x_pV1 (mc1 := 0) (ms1 := 0) (As := [.int _, .int _]) (ct_X5_refuse (by assumption) (by assumption) _ _) vX9_29 rfl (x_recv (by with_reducible repeat first | assumption | exact hset_s | refine hget_n (by first | assumption | exact Ne.symm (by assumption) | exact nA (by assumption) (by omega) (by omega) (by omega)) ?_) rfl) rfl ⟨ble rfl, ble rfl⟩ (ble rfl) dX9_buySheet_76 rfl ⟨by omega, by omega⟩ (fun h76 q76 => ?_)
              obtain ⟨f1, d1, R1, r1, r2, F1⟩ := q76
              have hm1 := F1 _ _ hm (nB ok (by omega) (by omega) (by omega))
              refine x_iret rfl dX9_buySheet_79 ?_
              have e : pSheet N g a = rfs 2 (g - N 0) 0 0 := by unfold pSheet; (repeat' split) <;> first | rfl | (exfalso; (simp only [Int32.lt_iff_toInt_lt, Int32.le_iff_toInt_le, ← Int32.toInt_inj, Int32.toInt_zero, t_1, t_2, t_3, t_4, t_5, t_6, t_7, t_8, t_9, t_10, t_11, t_12, t_13, t_14, t_16, t_20, t_30, t_32, t_48, t_50, t_57, t_60, t_90, t_99, t_120, t_126, t_m1, t_m2, t_m3, t_m4] at *; omega))
              rw [e]
              exact ⟨rfl, ⟨f1, d1, fun _ => R1, fun q => absurd rfl q, r1, r2⟩, F1⟩
          · first | refine x_aload_n 1 dX9_buySheet_40 rfl rfl ?_ | refine x_aload_nN 1 dX9_buySheet_40 rfl rfl ?_
            refine x_get fX9_21 rfl dX9_buySheet_41 (by with_reducible repeat first | assumption | exact hset_s | refine hget_n (by first | assumption | exact Ne.symm (by assumption) | exact nA (by assumption) (by omega) (by omega) (by omega)) ?_) (by rfl) ?_
            refine x_iconst (v := 1) dX9_buySheet_44 rfl ?_
            refine x_bipush (v := 12) dX9_buySheet_45 rfl ?_
            refine x_pV1 (mc1 := 0) (ms1 := 0) (As := [.int _, .int _]) (ct_X5_refuse (by assumption) (by assumption) _ _) vX9_29 rfl (x_recv (by with_reducible repeat first | assumption | exact hset_s | refine hget_n (by first | assumption | exact Ne.symm (by assumption) | exact nA (by assumption) (by omega) (by omega) (by omega)) ?_) rfl) rfl ⟨ble rfl, ble rfl⟩ (ble rfl) dX9_buySheet_47 rfl ⟨by omega, by omega⟩ (fun h47 q47 => ?_)
            obtain ⟨f1, d1, R1, r1, r2, F1⟩ := q47
            have hm1 := F1 _ _ hm (nB ok (by omega) (by omega) (by omega))
            refine x_iret rfl dX9_buySheet_50 ?_
            have e : pSheet N g a = rfs 1 12 0 0 := by unfold pSheet; (repeat' split) <;> first | rfl | (exfalso; (simp only [Int32.lt_iff_toInt_lt, Int32.le_iff_toInt_le, ← Int32.toInt_inj, Int32.toInt_zero, t_1, t_2, t_3, t_4, t_5, t_6, t_7, t_8, t_9, t_10, t_11, t_12, t_13, t_14, t_16, t_20, t_30, t_32, t_48, t_50, t_57, t_60, t_90, t_99, t_120, t_126, t_m1, t_m2, t_m3, t_m4] at *; omega))
            rw [e]
            exact ⟨rfl, ⟨f1, d1, fun _ => R1, fun q => absurd rfl q, r1, r2⟩, F1⟩
        · refine x_bipush (v := -2) dX9_buySheet_23 rfl ?_
          refine x_iret rfl dX9_buySheet_25 ?_
          have e : pSheet N g a = cod (-2) := by unfold pSheet; (repeat' split) <;> first | rfl | (exfalso; (simp only [Int32.lt_iff_toInt_lt, Int32.le_iff_toInt_le, ← Int32.toInt_inj, Int32.toInt_zero, t_1, t_2, t_3, t_4, t_5, t_6, t_7, t_8, t_9, t_10, t_11, t_12, t_13, t_14, t_16, t_20, t_30, t_32, t_48, t_50, t_57, t_60, t_90, t_99, t_120, t_126, t_m1, t_m2, t_m3, t_m4] at *; omega))
          rw [e]
          exact ⟨rfl, rfl⟩
set_option maxRecDepth 100000 in
set_option maxHeartbeats 4000000 in
theorem ct_X9_buyBars {l : Launch} {G : Gl} {h : Hp} {N : Nat → Int32} {ns np no c : Nat} {f d : Nat → Int32} (ok : Ok G) (H : ShW G h 1000 N ns np no) (R : RsW G h c f d) (hm : h (Ad G 1) = some (.inr (9, [.ref (Ad G 1000), .ref (Ad G 2)]))) (x : Int32) : CtP l G mX9_buyBars 3 (0) (0) [.ref (Ad G 1), .int x] h (some (.int (ansC (pBars N x)))) (fun h' => SmP G h (pBars N x) N ns np no c f d h') := by
  obtain ⟨hsh, has, hap, hao, -, hns, hnp, hno, bs, bp, bo, hS, hP, hO, -⟩ := id H
  obtain ⟨gp, fs, fp, fo, S0, F0⟩ := id H.sh
  have hr2 := R.1
  have tns : (N 2).toInt = ns := by rw [hns]; exact nI_toInt (by omega)
  have tnp : (N 3).toInt = np := by rw [hnp]; exact nI_toInt (by omega)
  have tno : (N 4).toInt = no := by rw [hno]; exact nI_toInt (by omega)
  refine Ct.of (L := [(0, _), (1, _)]) (by decide) (ble rfl) rfl ?_
  refine x_iload_n 1 dX9_buyBars_0 rfl rfl ?_
  refine x_iconst (v := 1) dX9_buyBars_1 rfl ?_
  refine x_icmp_lt 11 dX9_buyBars_2 (by decide) (fun c2 => ?_) (fun c2 => ?_)
  · refine x_bipush (v := -2) dX9_buyBars_11 rfl ?_
    refine x_iret rfl dX9_buyBars_13 ?_
    have e : pBars N x = cod (-2) := by unfold pBars; (repeat' split) <;> first | rfl | (exfalso; (simp only [Int32.lt_iff_toInt_lt, Int32.le_iff_toInt_le, ← Int32.toInt_inj, Int32.toInt_zero, t_1, t_2, t_3, t_4, t_5, t_6, t_7, t_8, t_9, t_10, t_11, t_12, t_13, t_14, t_16, t_20, t_30, t_32, t_48, t_50, t_57, t_60, t_90, t_99, t_120, t_126, t_m1, t_m2, t_m3, t_m4] at *; omega))
    rw [e]
    exact ⟨rfl, rfl⟩
  · refine x_iload_n 1 dX9_buyBars_5 rfl rfl ?_
    refine x_bipush (v := 50) dX9_buyBars_6 rfl ?_
    refine x_icmp_le 14 dX9_buyBars_8 (by decide) (fun c8 => ?_) (fun c8 => ?_)
    · first | refine x_aload_n 0 dX9_buyBars_14 rfl rfl ?_ | refine x_aload_nN 0 dX9_buyBars_14 rfl rfl ?_
      refine x_get fX9_12 rfl dX9_buyBars_15 (by with_reducible repeat first | assumption | exact hset_s | refine hget_n (by first | assumption | exact Ne.symm (by assumption) | exact nA (by assumption) (by omega) (by omega) (by omega)) ?_) (by rfl) ?_
      refine x_get fX9_33 rfl dX9_buyBars_18 (by with_reducible repeat first | assumption | exact hset_s | refine hget_n (by first | assumption | exact Ne.symm (by assumption) | exact nA (by assumption) (by omega) (by omega) (by omega)) ?_) (by rfl) ?_
      refine x_iload_n 1 dX9_buyBars_21 rfl rfl ?_
      refine x_icmp_ge 43 dX9_buyBars_22 (by decide) (fun c22 => ?_) (fun c22 => ?_)
      · first | refine x_aload_n 0 dX9_buyBars_43 rfl rfl ?_ | refine x_aload_nN 0 dX9_buyBars_43 rfl rfl ?_
        refine x_get fX9_12 rfl dX9_buyBars_44 (by with_reducible repeat first | assumption | exact hset_s | refine hget_n (by first | assumption | exact Ne.symm (by assumption) | exact nA (by assumption) (by omega) (by omega) (by omega)) ?_) (by rfl) ?_
        refine x_dup dX9_buyBars_47 rfl ?_
        refine x_get fX9_33 rfl dX9_buyBars_48 (by with_reducible repeat first | assumption | exact hset_s | refine hget_n (by first | assumption | exact Ne.symm (by assumption) | exact nA (by assumption) (by omega) (by omega) (by omega)) ?_) (by rfl) ?_
        refine x_iload_n 1 dX9_buyBars_51 rfl rfl ?_
        refine x_isub dX9_buyBars_52 ?_
        refine x_put fX9_33 rfl rfl rfl rfl dX9_buyBars_53 (by with_reducible repeat first | assumption | exact hset_s | refine hget_n (by first | assumption | exact Ne.symm (by assumption) | exact nA (by assumption) (by omega) (by omega) (by omega)) ?_) (by exact ble rfl) (by first | assumption | exact aA (by assumption) (by omega)) ?_
        first | refine x_aload_n 0 dX9_buyBars_56 rfl rfl ?_ | refine x_aload_nN 0 dX9_buyBars_56 rfl rfl ?_
        refine x_get fX9_12 rfl dX9_buyBars_57 (by with_reducible repeat first | assumption | exact hset_s | refine hget_n (by first | assumption | exact Ne.symm (by assumption) | exact nA (by assumption) (by omega) (by omega) (by omega)) ?_) (by rfl) ?_
        refine x_dup dX9_buyBars_60 rfl ?_
        refine x_get fX9_92 rfl dX9_buyBars_61 (by with_reducible repeat first | assumption | exact hset_s | refine hget_n (by first | assumption | exact Ne.symm (by assumption) | exact nA (by assumption) (by omega) (by omega) (by omega)) ?_) (by rfl) ?_
        refine x_iload_n 1 dX9_buyBars_64 rfl rfl ?_
        refine x_iadd dX9_buyBars_65 ?_
        refine x_putS fX9_92 rfl rfl rfl rfl dX9_buyBars_66 (by exact ble rfl) (by first | assumption | exact aA (by assumption) (by omega)) ?_
        first | refine x_aload_n 0 dX9_buyBars_69 rfl rfl ?_ | refine x_aload_nN 0 dX9_buyBars_69 rfl rfl ?_
        refine x_get fX9_12 rfl dX9_buyBars_70 (by with_reducible repeat first | assumption | exact hset_s | refine hget_n (by first | assumption | exact Ne.symm (by assumption) | exact nA (by assumption) (by omega) (by omega) (by omega)) ?_) (by rfl) ?_
        refine x_dup dX9_buyBars_73 rfl ?_
        refine x_get fX9_95 rfl dX9_buyBars_74 (by with_reducible repeat first | assumption | exact hset_s | refine hget_n (by first | assumption | exact Ne.symm (by assumption) | exact nA (by assumption) (by omega) (by omega) (by omega)) ?_) (by rfl) ?_
        refine x_iload_n 1 dX9_buyBars_77 rfl rfl ?_
        refine x_iadd dX9_buyBars_78 ?_
        refine x_putS fX9_95 rfl rfl rfl rfl dX9_buyBars_79 (by exact ble rfl) (by first | assumption | exact aA (by assumption) (by omega)) ?_
        first | refine x_aload_n 0 dX9_buyBars_82 rfl rfl ?_ | refine x_aload_nN 0 dX9_buyBars_82 rfl rfl ?_
        refine x_get fX9_12 rfl dX9_buyBars_83 (by with_reducible repeat first | assumption | exact hset_s | refine hget_n (by first | assumption | exact Ne.symm (by assumption) | exact nA (by assumption) (by omega) (by omega) (by omega)) ?_) (by rfl) ?_
        refine x_get fX9_92 rfl dX9_buyBars_86 (by with_reducible repeat first | assumption | exact hset_s | refine hget_n (by first | assumption | exact Ne.symm (by assumption) | exact nA (by assumption) (by omega) (by omega) (by omega)) ?_) (by rfl) ?_
        refine x_iret rfl dX9_buyBars_89 ?_
        have e : pBars N x = okk (N 1 + x) (upd (upd (upd (upd N 0 (N 0 - x)) 10 (N 10 + x)) 1 (N 1 + x)) 11 (N 11 + x)) := by unfold pBars; (repeat' split) <;> first | rfl | (exfalso; (simp only [Int32.lt_iff_toInt_lt, Int32.le_iff_toInt_le, ← Int32.toInt_inj, Int32.toInt_zero, t_1, t_2, t_3, t_4, t_5, t_6, t_7, t_8, t_9, t_10, t_11, t_12, t_13, t_14, t_16, t_20, t_30, t_32, t_48, t_50, t_57, t_60, t_90, t_99, t_120, t_126, t_m1, t_m2, t_m3, t_m4] at *; omega))
        rw [e]
        refine ⟨rfl, ⟨ns, np, no, ShW.mk2 ((S0.shop ok (by omega) _).cg ?_ (fun _ _ => rfl) (fun _ _ => rfl) (fun _ _ => rfl)) F0 ⟨?_, ?_, ?_, by omega, by omega, by omega⟩ ?_ ?_ ?_⟩, Fr.st (Fr.rf) (inB_0 (by omega))⟩
        · unfold eShop; simp (disch := omega) only [upd_ne, upd_eq]; rw [show N 11 + x - 20 = N 11 - 20 + x by simp only [Int32.sub_eq_add_neg]; ac_rfl]; rfl
        · simp (disch := omega) only [upd_ne, upd_eq]; exact hns
        · simp (disch := omega) only [upd_ne, upd_eq]; exact hnp
        · simp (disch := omega) only [upd_ne, upd_eq]; exact hno
        · intro i1 hi1; exact Or.inl ⟨rfl, fun hi2 => ⟨hi2, fun q2 hq2 => by simp (disch := omega) only [upd_ne, upd_eq]⟩⟩
        · intro i1 hi1; exact Or.inl ⟨rfl, fun hi2 => ⟨hi2, fun q2 hq2 => by simp (disch := omega) only [upd_ne, upd_eq]⟩⟩
        · intro i1 hi1; exact Or.inl ⟨rfl, fun hi2 => ⟨hi2, fun q2 hq2 => by simp (disch := omega) only [upd_ne, upd_eq]⟩⟩
      · first | refine x_aload_n 0 dX9_buyBars_25 rfl rfl ?_ | refine x_aload_nN 0 dX9_buyBars_25 rfl rfl ?_
        refine x_get fX9_21 rfl dX9_buyBars_26 (by with_reducible repeat first | assumption | exact hset_s | refine hget_n (by first | assumption | exact Ne.symm (by assumption) | exact nA (by assumption) (by omega) (by omega) (by omega)) ?_) (by rfl) ?_
        refine x_iconst (v := 2) dX9_buyBars_29 rfl ?_
        refine x_iload_n 1 dX9_buyBars_30 rfl rfl ?_
        first | refine x_aload_n 0 dX9_buyBars_31 rfl rfl ?_ | refine x_aload_nN 0 dX9_buyBars_31 rfl rfl ?_
        refine x_get fX9_12 rfl dX9_buyBars_32 (by with_reducible repeat first | assumption | exact hset_s | refine hget_n (by first | assumption | exact Ne.symm (by assumption) | exact nA (by assumption) (by omega) (by omega) (by omega)) ?_) (by rfl) ?_
        refine x_get fX9_33 rfl dX9_buyBars_35 (by with_reducible repeat first | assumption | exact hset_s | refine hget_n (by first | assumption | exact Ne.symm (by assumption) | exact nA (by assumption) (by omega) (by omega) (by omega)) ?_) (by rfl) ?_
        refine x_isub dX9_buyBars_38 ?_
        refine x_pV1 (mc1 := 0) (ms1 := 0) (As := [.int _, .int _]) (ct_X5_refuse (by assumption) (by assumption) _ _) vX9_29 rfl (x_recv (by with_reducible repeat first | assumption | exact hset_s | refine hget_n (by first | assumption | exact Ne.symm (by assumption) | exact nA (by assumption) (by omega) (by omega) (by omega)) ?_) rfl) rfl ⟨ble rfl, ble rfl⟩ (ble rfl) dX9_buyBars_39 rfl ⟨by omega, by omega⟩ (fun h39 q39 => ?_)
        obtain ⟨f1, d1, R1, r1, r2, F1⟩ := q39
        have hm1 := F1 _ _ hm (nB ok (by omega) (by omega) (by omega))
        refine x_iret rfl dX9_buyBars_42 ?_
        have e : pBars N x = rfs 2 (x - N 0) 0 0 := by unfold pBars; (repeat' split) <;> first | rfl | (exfalso; (simp only [Int32.lt_iff_toInt_lt, Int32.le_iff_toInt_le, ← Int32.toInt_inj, Int32.toInt_zero, t_1, t_2, t_3, t_4, t_5, t_6, t_7, t_8, t_9, t_10, t_11, t_12, t_13, t_14, t_16, t_20, t_30, t_32, t_48, t_50, t_57, t_60, t_90, t_99, t_120, t_126, t_m1, t_m2, t_m3, t_m4] at *; omega))
        rw [e]
        exact ⟨rfl, ⟨f1, d1, fun _ => R1, fun q => absurd rfl q, r1, r2⟩, F1⟩
    · refine x_bipush (v := -2) dX9_buyBars_11 rfl ?_
      refine x_iret rfl dX9_buyBars_13 ?_
      have e : pBars N x = cod (-2) := by unfold pBars; (repeat' split) <;> first | rfl | (exfalso; (simp only [Int32.lt_iff_toInt_lt, Int32.le_iff_toInt_le, ← Int32.toInt_inj, Int32.toInt_zero, t_1, t_2, t_3, t_4, t_5, t_6, t_7, t_8, t_9, t_10, t_11, t_12, t_13, t_14, t_16, t_20, t_30, t_32, t_48, t_50, t_57, t_60, t_90, t_99, t_120, t_126, t_m1, t_m2, t_m3, t_m4] at *; omega))
      rw [e]
      exact ⟨rfl, rfl⟩
set_option maxRecDepth 100000 in
set_option maxHeartbeats 4000000 in
theorem ct_X9_raisePot_o {l : Launch} {G : Gl} {h : Hp} {N : Nat → Int32} {ns np no c : Nat} {f d : Nat → Int32} (ok : Ok G) (H : ShW G h 1000 N ns np no) (R : RsW G h c f d) (hm : h (Ad G 1) = some (.inr (9, [.ref (Ad G 1000), .ref (Ad G 2)]))) (x y : Int32) (hx : ¬ (0 ≤ x ∧ x < N 2)) : CtP l G mX9_raisePot 3 (0) (0) [.ref (Ad G 1), .int x, .int y] h (some (.int (ansC (pRaise N x y)))) (fun h' => SmP G h (pRaise N x y) N ns np no c f d h') := by
  obtain ⟨hsh, has, hap, hao, -, hns, hnp, hno, bs, bp, bo, hS, hP, hO, -⟩ := id H
  obtain ⟨gp, fs, fp, fo, S0, F0⟩ := id H.sh
  have hr2 := R.1
  have tns : (N 2).toInt = ns := by rw [hns]; exact nI_toInt (by omega)
  have tnp : (N 3).toInt = np := by rw [hnp]; exact nI_toInt (by omega)
  have tno : (N 4).toInt = no := by rw [hno]; exact nI_toInt (by omega)
  refine Ct.of (L := [(0, _), (1, _), (2, _)]) (by decide) (ble rfl) rfl ?_
  first | refine x_aload_n 0 dX9_raisePot_0 rfl rfl ?_ | refine x_aload_nN 0 dX9_raisePot_0 rfl rfl ?_
  refine x_get fX9_12 rfl dX9_raisePot_1 (by with_reducible repeat first | assumption | exact hset_s | refine hget_n (by first | assumption | exact Ne.symm (by assumption) | exact nA (by assumption) (by omega) (by omega) (by omega)) ?_) (by rfl) ?_
  refine x_iload_n 1 dX9_raisePot_4 rfl rfl ?_
  refine x_cV1 (As := [.int _]) (ct_X8_sheetAt_out ok (by omega) H hx) vX9_46 rfl (x_recv (by with_reducible repeat first | assumption | exact hset_s | refine hget_n (by first | assumption | exact Ne.symm (by assumption) | exact nA (by assumption) (by omega) (by omega) (by omega)) ?_) rfl) rfl ⟨ble rfl, ble rfl⟩ (ble rfl) dX9_raisePot_5 rfl ?_
  first | refine x_astore_n (L' := [(3, _), (0, _), (1, _), (2, _)]) dX9_raisePot_8 rfl (ble rfl) rfl ?_ | refine x_astore_nN (L' := [(3, _), (0, _), (1, _), (2, _)]) dX9_raisePot_8 rfl (ble rfl) rfl ?_
  first | refine x_aload_n 0 dX9_raisePot_9 rfl rfl ?_ | refine x_aload_nN 0 dX9_raisePot_9 rfl rfl ?_
  refine x_ifnonnullN 15 dX9_raisePot_10 (by decide) ?_
  refine x_iconst (v := -1) dX9_raisePot_13 rfl ?_
  refine x_iret rfl dX9_raisePot_14 ?_
  have e : pRaise N x y = cod (-1) := by unfold pRaise; (repeat' split) <;> first | rfl | (exfalso; (simp only [Int32.lt_iff_toInt_lt, Int32.le_iff_toInt_le, ← Int32.toInt_inj, Int32.toInt_zero, t_1, t_2, t_3, t_4, t_5, t_6, t_7, t_8, t_9, t_10, t_11, t_12, t_13, t_14, t_16, t_20, t_30, t_32, t_48, t_50, t_57, t_60, t_90, t_99, t_120, t_126, t_m1, t_m2, t_m3, t_m4] at *; omega))
  rw [e]
  exact ⟨rfl, rfl⟩
set_option maxRecDepth 100000 in
set_option maxHeartbeats 4000000 in
theorem ct_X9_raisePot_io {l : Launch} {G : Gl} {h : Hp} {N : Nat → Int32} {ns np no c : Nat} {f d : Nat → Int32} (ok : Ok G) (H : ShW G h 1000 N ns np no) (R : RsW G h c f d) (hm : h (Ad G 1) = some (.inr (9, [.ref (Ad G 1000), .ref (Ad G 2)]))) {i : Nat} (hi : i < ns) (y : Int32) (hy : ¬ (0 ≤ y ∧ y < 3)) : CtP l G mX9_raisePot 3 (0) (0) [.ref (Ad G 1), .int (nI i), .int y] h (some (.int (ansC (pRaise N (nI i) y)))) (fun h' => SmP G h (pRaise N (nI i) y) N ns np no c f d h') := by
  obtain ⟨hsh, has, hap, hao, -, hns, hnp, hno, bs, bp, bo, hS, hP, hO, -⟩ := id H
  obtain ⟨gp, fs, fp, fo, S0, F0⟩ := id H.sh
  have hr2 := R.1
  have tns : (N 2).toInt = ns := by rw [hns]; exact nI_toInt (by omega)
  have tnp : (N 3).toInt = np := by rw [hnp]; exact nI_toInt (by omega)
  have tno : (N 4).toInt = no := by rw [hno]; exact nI_toInt (by omega)
  have hcl := kOf_nI (j := i) (by omega)
  have ti := nI_toInt (n := i) (by omega)
  refine Ct.of (L := [(0, _), (1, _), (2, _)]) (by decide) (ble rfl) rfl ?_
  first | refine x_aload_n 0 dX9_raisePot_0 rfl rfl ?_ | refine x_aload_nN 0 dX9_raisePot_0 rfl rfl ?_
  refine x_get fX9_12 rfl dX9_raisePot_1 (by with_reducible repeat first | assumption | exact hset_s | refine hget_n (by first | assumption | exact Ne.symm (by assumption) | exact nA (by assumption) (by omega) (by omega) (by omega)) ?_) (by rfl) ?_
  refine x_iload_n 1 dX9_raisePot_4 rfl rfl ?_
  refine x_cV1 (As := [.int _]) (ct_X8_sheetAt_in ok (by omega) H (by assumption)) vX9_46 rfl (x_recv (by with_reducible repeat first | assumption | exact hset_s | refine hget_n (by first | assumption | exact Ne.symm (by assumption) | exact nA (by assumption) (by omega) (by omega) (by omega)) ?_) rfl) rfl ⟨ble rfl, ble rfl⟩ (ble rfl) dX9_raisePot_5 rfl ?_
  first | refine x_astore_n (L' := [(3, _), (0, _), (1, _), (2, _)]) dX9_raisePot_8 rfl (ble rfl) rfl ?_ | refine x_astore_nN (L' := [(3, _), (0, _), (1, _), (2, _)]) dX9_raisePot_8 rfl (ble rfl) rfl ?_
  first | refine x_aload_n 0 dX9_raisePot_9 rfl rfl ?_ | refine x_aload_nN 0 dX9_raisePot_9 rfl rfl ?_
  refine x_ifnonnull 15 dX9_raisePot_10 (by decide) ?_
  refine x_iload_n 3 dX9_raisePot_15 rfl rfl ?_
  refine x_cS1 (As := [.int _]) (ct_X2_numbered_out (by assumption)) vX9_50 rfl rfl ⟨ble rfl, ble rfl⟩ (ble rfl) dX9_raisePot_16 rfl ?_
  first | refine x_astore (L' := [(4, _), (3, _), (0, _), (1, _), (2, _)]) dX9_raisePot_19 (ble rfl) rfl ?_ | refine x_astoreN (L' := [(4, _), (3, _), (0, _), (1, _), (2, _)]) dX9_raisePot_19 (ble rfl) rfl ?_
  first | refine x_aload 0 dX9_raisePot_21 rfl ?_ | refine x_aloadN 0 dX9_raisePot_21 rfl ?_
  refine x_ifnonnullN 29 dX9_raisePot_23 (by decide) ?_
  refine x_bipush (v := -2) dX9_raisePot_26 rfl ?_
  refine x_iret rfl dX9_raisePot_28 ?_
  have e : pRaise N (nI i) y = cod (-2) := by unfold pRaise; (repeat' split) <;> first | rfl | (exfalso; (simp only [Int32.lt_iff_toInt_lt, Int32.le_iff_toInt_le, ← Int32.toInt_inj, Int32.toInt_zero, t_1, t_2, t_3, t_4, t_5, t_6, t_7, t_8, t_9, t_10, t_11, t_12, t_13, t_14, t_16, t_20, t_30, t_32, t_48, t_50, t_57, t_60, t_90, t_99, t_120, t_126, t_m1, t_m2, t_m3, t_m4] at *; omega))
  rw [e]
  exact ⟨rfl, rfl⟩
set_option maxRecDepth 100000 in
set_option maxHeartbeats 4000000 in
theorem ct_X9_raisePot_ii {l : Launch} {G : Gl} {h : Hp} {N : Nat → Int32} {ns np no c : Nat} {f d : Nat → Int32} (ok : Ok G) (H : ShW G h 1000 N ns np no) (R : RsW G h c f d) (hm : h (Ad G 1) = some (.inr (9, [.ref (Ad G 1000), .ref (Ad G 2)]))) {i k : Nat} (hi : i < ns) (hk : k < 3) : CtP l G mX9_raisePot 3 (0) (0) [.ref (Ad G 1), .int (nI i), .int (nI k)] h (some (.int (ansC (pRaise N (nI i) (nI k))))) (fun h' => SmP G h (pRaise N (nI i) (nI k)) N ns np no c f d h') := by
  obtain ⟨hsh, has, hap, hao, -, hns, hnp, hno, bs, bp, bo, hS, hP, hO, -⟩ := id H
  obtain ⟨gp, fs, fp, fo, S0, F0⟩ := id H.sh
  have hr2 := R.1
  have tns : (N 2).toInt = ns := by rw [hns]; exact nI_toInt (by omega)
  have tnp : (N 3).toInt = np := by rw [hnp]; exact nI_toInt (by omega)
  have tno : (N 4).toInt = no := by rw [hno]; exact nI_toInt (by omega)
  have hcl := kOf_nI (j := i) (by omega)
  have ti := nI_toInt (n := i) (by omega)
  have hck := kOf_nI (j := k) (by omega)
  have tk := nI_toInt (n := k) (by omega)
  have hcn : kOf (N 3) = np := by rw [hnp]; exact kOf_nI (by omega)
  have hs := hS i hi
  refine Ct.of (L := [(0, _), (1, _), (2, _)]) (by decide) (ble rfl) rfl ?_
  first | refine x_aload_n 0 dX9_raisePot_0 rfl rfl ?_ | refine x_aload_nN 0 dX9_raisePot_0 rfl rfl ?_
  refine x_get fX9_12 rfl dX9_raisePot_1 (by with_reducible repeat first | assumption | exact hset_s | refine hget_n (by first | assumption | exact Ne.symm (by assumption) | exact nA (by assumption) (by omega) (by omega) (by omega)) ?_) (by rfl) ?_
  refine x_iload_n 1 dX9_raisePot_4 rfl rfl ?_
  refine x_cV1 (As := [.int _]) (ct_X8_sheetAt_in ok (by omega) H (by assumption)) vX9_46 rfl (x_recv (by with_reducible repeat first | assumption | exact hset_s | refine hget_n (by first | assumption | exact Ne.symm (by assumption) | exact nA (by assumption) (by omega) (by omega) (by omega)) ?_) rfl) rfl ⟨ble rfl, ble rfl⟩ (ble rfl) dX9_raisePot_5 rfl ?_
  first | refine x_astore_n (L' := [(3, _), (0, _), (1, _), (2, _)]) dX9_raisePot_8 rfl (ble rfl) rfl ?_ | refine x_astore_nN (L' := [(3, _), (0, _), (1, _), (2, _)]) dX9_raisePot_8 rfl (ble rfl) rfl ?_
  first | refine x_aload_n 0 dX9_raisePot_9 rfl rfl ?_ | refine x_aload_nN 0 dX9_raisePot_9 rfl rfl ?_
  refine x_ifnonnull 15 dX9_raisePot_10 (by decide) ?_
  refine x_iload_n 3 dX9_raisePot_15 rfl rfl ?_
  refine x_cS1 (As := [.int _]) (ct_X2_numbered_in (by assumption)) vX9_50 rfl rfl ⟨ble rfl, ble rfl⟩ (ble rfl) dX9_raisePot_16 rfl ?_
  first | refine x_astore (L' := [(4, _), (3, _), (0, _), (1, _), (2, _)]) dX9_raisePot_19 (ble rfl) rfl ?_ | refine x_astoreN (L' := [(4, _), (3, _), (0, _), (1, _), (2, _)]) dX9_raisePot_19 (ble rfl) rfl ?_
  first | refine x_aload 0 dX9_raisePot_21 rfl ?_ | refine x_aloadN 0 dX9_raisePot_21 rfl ?_
  refine x_ifnonnull 29 dX9_raisePot_23 (by decide) ?_
  first | refine x_aload_n 2 dX9_raisePot_29 rfl rfl ?_ | refine x_aload_nN 2 dX9_raisePot_29 rfl rfl ?_
  refine x_get fX9_12 rfl dX9_raisePot_30 (by with_reducible repeat first | assumption | exact hset_s | refine hget_n (by first | assumption | exact Ne.symm (by assumption) | exact nA (by assumption) (by omega) (by omega) (by omega)) ?_) (by rfl) ?_
  refine x_get fX9_56 rfl dX9_raisePot_33 (by with_reducible repeat first | assumption | exact hset_s | refine hget_n (by first | assumption | exact Ne.symm (by assumption) | exact nA (by assumption) (by omega) (by omega) (by omega)) ?_) (by rfl) ?_
  refine x_istore (L' := [(5, _), (4, _), (3, _), (0, _), (1, _), (2, _)]) dX9_raisePot_36 (ble rfl) rfl ?_
  refine x_iload 0 dX9_raisePot_38 rfl ?_
  refine x_bipush (v := 16) dX9_raisePot_40 rfl ?_
  refine x_icmp_lt 56 dX9_raisePot_42 (by decide) (fun c42 => ?_) (fun c42 => ?_)
  · have hb : np < 16 := by (simp only [Int32.lt_iff_toInt_lt, Int32.le_iff_toInt_le, ← Int32.toInt_inj, Int32.toInt_zero, t_1, t_2, t_3, t_4, t_5, t_6, t_7, t_8, t_9, t_10, t_11, t_12, t_13, t_14, t_16, t_20, t_30, t_32, t_48, t_50, t_57, t_60, t_90, t_99, t_120, t_126, t_m1, t_m2, t_m3, t_m4] at *; omega)
    first | refine x_aload_n 2 dX9_raisePot_56 rfl rfl ?_ | refine x_aload_nN 2 dX9_raisePot_56 rfl rfl ?_
    refine x_get fX9_59 rfl dX9_raisePot_57 (by with_reducible repeat first | assumption | exact hset_s | refine hget_n (by first | assumption | exact Ne.symm (by assumption) | exact nA (by assumption) (by omega) (by omega) (by omega)) ?_) (by rfl) ?_
    first | refine x_aload 1 dX9_raisePot_60 rfl ?_ | refine x_aloadN 1 dX9_raisePot_60 rfl ?_
    refine x_getO (zK_area (by assumption)) rfl oX9_62 dX9_raisePot_62 ?_
    refine x_icmp_ge 87 dX9_raisePot_65 (by decide) (fun c65 => ?_) (fun c65 => ?_)
    · first | refine x_aload_n 2 dX9_raisePot_87 rfl rfl ?_ | refine x_aload_nN 2 dX9_raisePot_87 rfl rfl ?_
      refine x_dup dX9_raisePot_88 rfl ?_
      refine x_get fX9_59 rfl dX9_raisePot_89 (by with_reducible repeat first | assumption | exact hset_s | refine hget_n (by first | assumption | exact Ne.symm (by assumption) | exact nA (by assumption) (by omega) (by omega) (by omega)) ?_) (by rfl) ?_
      first | refine x_aload 1 dX9_raisePot_92 rfl ?_ | refine x_aloadN 1 dX9_raisePot_92 rfl ?_
      refine x_getO (zK_area (by assumption)) rfl oX9_62 dX9_raisePot_94 ?_
      refine x_isub dX9_raisePot_97 ?_
      refine x_put fX9_59 rfl rfl rfl rfl dX9_raisePot_98 (by with_reducible repeat first | assumption | exact hset_s | refine hget_n (by first | assumption | exact Ne.symm (by assumption) | exact nA (by assumption) (by omega) (by omega) (by omega)) ?_) (by exact ble rfl) (by first | assumption | exact aA (by assumption) (by omega)) ?_
      first | refine x_aload_n 2 dX9_raisePot_101 rfl rfl ?_ | refine x_aload_nN 2 dX9_raisePot_101 rfl rfl ?_
      refine x_dup dX9_raisePot_102 rfl ?_
      refine x_get fX9_63 rfl dX9_raisePot_103 (by with_reducible repeat first | assumption | exact hset_s | refine hget_n (by first | assumption | exact Ne.symm (by assumption) | exact nA (by assumption) (by omega) (by omega) (by omega)) ?_) (by rfl) ?_
      refine x_iconst (v := 1) dX9_raisePot_106 rfl ?_
      refine x_iadd dX9_raisePot_107 ?_
      refine x_putS fX9_63 rfl rfl rfl rfl dX9_raisePot_108 (by exact ble rfl) (by first | assumption | exact aA (by assumption) (by omega)) ?_
      first | refine x_aload_n 3 dX9_raisePot_111 rfl rfl ?_ | refine x_aload_nN 3 dX9_raisePot_111 rfl rfl ?_
      refine x_get fX9_12 rfl dX9_raisePot_112 (by with_reducible repeat first | assumption | exact hset_s | refine hget_n (by first | assumption | exact Ne.symm (by assumption) | exact nA (by assumption) (by omega) (by omega) (by omega)) ?_) (by rfl) ?_
      refine x_get fX9_66 rfl dX9_raisePot_115 (by with_reducible repeat first | assumption | exact hset_s | refine hget_n (by first | assumption | exact Ne.symm (by assumption) | exact nA (by assumption) (by omega) (by omega) (by omega)) ?_) (by rfl) ?_
      refine x_iload 0 dX9_raisePot_118 rfl ?_
      refine x_aald 4 rfl dX9_raisePot_120 (by with_reducible repeat first | assumption | exact hset_s | refine hget_n (by first | assumption | exact Ne.symm (by assumption) | exact nA (by assumption) (by omega) (by omega) (by omega)) ?_) (by rw [hnp]; exact vp_in_nI (by omega) (by omega)) (v := .ref (Ad G (1000 + 30 + np))) (by rw [hnp, nI_clamp (by omega)]; rfl) ?_
      obtain ⟨k0, sh0, g0, b0, t0, r0, m0, o0, hp0⟩ := F0.2.2.2.2.2.2.2.2.2.2.1 np (by omega)
      have hp := (S0.2.2.2.2.2.2.1 np (by omega)).trans (congrArg some hp0)
      first | refine x_aload 1 dX9_raisePot_121 rfl ?_ | refine x_aloadN 1 dX9_raisePot_121 rfl ?_
      refine x_iload_n 4 dX9_raisePot_123 rfl rfl ?_
      first | refine x_aload_n 2 dX9_raisePot_124 rfl rfl ?_ | refine x_aload_nN 2 dX9_raisePot_124 rfl rfl ?_
      refine x_get fX9_69 rfl dX9_raisePot_125 (by with_reducible repeat first | assumption | exact hset_s | refine hget_n (by first | assumption | exact Ne.symm (by assumption) | exact nA (by assumption) (by omega) (by omega) (by omega)) ?_) (by rfl) ?_
      refine x_cV0 (As := [.ref _, .int _, .int _]) (ct_X4_arrive (by with_reducible repeat first | assumption | exact hset_s | refine hget_n (by first | assumption | exact Ne.symm (by assumption) | exact nA (by assumption) (by omega) (by omega) (by omega)) ?_) (aA ok (by omega))) vX9_72 rfl (x_recv (by with_reducible repeat first | assumption | exact hset_s | refine hget_n (by first | assumption | exact Ne.symm (by assumption) | exact nA (by assumption) (by omega) (by omega) (by omega)) ?_) rfl) rfl ⟨ble rfl, ble rfl⟩ (ble rfl) dX9_raisePot_128 rfl ?_
      first | refine x_aload_n 3 dX9_raisePot_131 rfl rfl ?_ | refine x_aload_nN 3 dX9_raisePot_131 rfl rfl ?_
      refine x_get fX9_12 rfl dX9_raisePot_132 (by with_reducible repeat first | assumption | exact hset_s | refine hget_n (by first | assumption | exact Ne.symm (by assumption) | exact nA (by assumption) (by omega) (by omega) (by omega)) ?_) (by rfl) ?_
      refine x_dup dX9_raisePot_135 rfl ?_
      refine x_get fX9_56 rfl dX9_raisePot_136 (by with_reducible repeat first | assumption | exact hset_s | refine hget_n (by first | assumption | exact Ne.symm (by assumption) | exact nA (by assumption) (by omega) (by omega) (by omega)) ?_) (by rfl) ?_
      refine x_iconst (v := 1) dX9_raisePot_139 rfl ?_
      refine x_iadd dX9_raisePot_140 ?_
      refine x_put fX9_56 rfl rfl rfl rfl dX9_raisePot_141 (by with_reducible repeat first | assumption | exact hset_s | refine hget_n (by first | assumption | exact Ne.symm (by assumption) | exact nA (by assumption) (by omega) (by omega) (by omega)) ?_) (by exact ble rfl) (by first | assumption | exact aA (by assumption) (by omega)) ?_
      refine x_iload 0 dX9_raisePot_144 rfl ?_
      refine x_iret rfl dX9_raisePot_146 ?_
      have e : pRaise N (nI i) (nI k) = okk (N 3) (upd (upd (upd (upd (upd (upd (upd (upd (upd (upd (upd N (13 + 4 * i) (N (13 + 4 * i) - kArea k)) (14 + 4 * i) (N (14 + 4 * i) + 1)) (60 + 8 * np) (nI k)) (61 + 8 * np) (N (12 + 4 * i))) (62 + 8 * np) 0) (63 + 8 * np) 0) (64 + 8 * np) 0) (65 + 8 * np) 0) (66 + 8 * np) (-4)) (67 + 8 * np) (nI i)) 3 (N 3 + 1)) := by unfold pRaise; rw [hcl, hck, hcn]; (repeat' split) <;> first | rfl | (exfalso; (simp only [Int32.lt_iff_toInt_lt, Int32.le_iff_toInt_le, ← Int32.toInt_inj, Int32.toInt_zero, t_1, t_2, t_3, t_4, t_5, t_6, t_7, t_8, t_9, t_10, t_11, t_12, t_13, t_14, t_16, t_20, t_30, t_32, t_48, t_50, t_57, t_60, t_90, t_99, t_120, t_126, t_m1, t_m2, t_m3, t_m4] at *; omega))
      rw [e]
      refine ⟨rfl, ⟨ns, np + 1, no, ShW.mk2 ((((S0.sheet ok (by omega) (show i < 12 by omega) _).pot ok (by omega) (show np < 16 by omega) _).shop ok (by omega) _).cg ?_ (fun _ _ => rfl) (fun _ _ => rfl) (fun _ _ => rfl)) F0 ⟨?_, ?_, ?_, by omega, by omega, by omega⟩ ?_ ?_ ?_⟩, Fr.st (Fr.st (Fr.st (Fr.rf) (inB_2 (by omega))) (inB_2 (by omega))) (inB_0 (by omega))⟩
      · unfold eShop; simp (disch := omega) only [upd_ne, upd_eq]; rfl
      · simp (disch := omega) only [upd_ne, upd_eq]; exact hns
      · simp (disch := omega) only [upd_ne, upd_eq]; rw [hnp]; exact nI_1 np
      · simp (disch := omega) only [upd_ne, upd_eq]; exact hno
      · intro i1 hi1; by_cases q : i1 = i
        · refine Or.inr ?_; rw [q]; simp only [va_u_eq]; unfold sC; simp (disch := omega) only [upd_ne, upd_eq]; rfl
        · refine Or.inl ⟨by simp only [va_u_ne q], fun hi2 => ⟨by omega, fun q2 hq2 => by simp (disch := omega) only [upd_ne, upd_eq]⟩⟩
      · intro i1 hi1; by_cases q : i1 = np
        · refine Or.inr ?_; rw [q]; simp only [va_u_eq]; rw [show kOf ((upd (upd (upd (upd (upd (upd (upd (upd (upd (upd (upd N (13 + 4 * i) (N (13 + 4 * i) - kArea k)) (14 + 4 * i) (N (14 + 4 * i) + 1)) (60 + 8 * np) (nI k)) (61 + 8 * np) (N (12 + 4 * i))) (62 + 8 * np) 0) (63 + 8 * np) 0) (64 + 8 * np) 0) (65 + 8 * np) 0) (66 + 8 * np) (-4)) (67 + 8 * np) (nI i)) 3 (N 3 + 1)) (60 + 8 * np)) = k by simp (disch := omega) only [upd_ne, upd_eq]; exact hck]; exact ⟨by unfold pC; simp (disch := omega) only [upd_ne, upd_eq]; rw [hck] <;> rfl, hk⟩
        · refine Or.inl ⟨by simp only [va_u_ne q], fun hi2 => ⟨by omega, fun q2 hq2 => by simp (disch := omega) only [upd_ne, upd_eq]⟩⟩
      · intro i1 hi1; exact Or.inl ⟨rfl, fun hi2 => ⟨hi2, fun q2 hq2 => by simp (disch := omega) only [upd_ne, upd_eq]⟩⟩
    · first | refine x_aload_n 3 dX9_raisePot_68 rfl rfl ?_ | refine x_aload_nN 3 dX9_raisePot_68 rfl rfl ?_
      refine x_get fX9_21 rfl dX9_raisePot_69 (by with_reducible repeat first | assumption | exact hset_s | refine hget_n (by first | assumption | exact Ne.symm (by assumption) | exact nA (by assumption) (by omega) (by omega) (by omega)) ?_) (by rfl) ?_
      refine x_iconst (v := 3) dX9_raisePot_72 rfl ?_
      first | refine x_aload 1 dX9_raisePot_73 rfl ?_ | refine x_aloadN 1 dX9_raisePot_73 rfl ?_
      refine x_getO (zK_area (by assumption)) rfl oX9_62 dX9_raisePot_75 ?_
      first | refine x_aload_n 2 dX9_raisePot_78 rfl rfl ?_ | refine x_aload_nN 2 dX9_raisePot_78 rfl rfl ?_
      refine x_get fX9_59 rfl dX9_raisePot_79 (by with_reducible repeat first | assumption | exact hset_s | refine hget_n (by first | assumption | exact Ne.symm (by assumption) | exact nA (by assumption) (by omega) (by omega) (by omega)) ?_) (by rfl) ?_
      refine x_isub dX9_raisePot_82 ?_
      refine x_pV1 (mc1 := 0) (ms1 := 0) (As := [.int _, .int _]) (ct_X5_refuse (by assumption) (by assumption) _ _) vX9_29 rfl (x_recv (by with_reducible repeat first | assumption | exact hset_s | refine hget_n (by first | assumption | exact Ne.symm (by assumption) | exact nA (by assumption) (by omega) (by omega) (by omega)) ?_) rfl) rfl ⟨ble rfl, ble rfl⟩ (ble rfl) dX9_raisePot_83 rfl ⟨by omega, by omega⟩ (fun h83 q83 => ?_)
      obtain ⟨f1, d1, R1, r1, r2, F1⟩ := q83
      have hm1 := F1 _ _ hm (nB ok (by omega) (by omega) (by omega))
      refine x_iret rfl dX9_raisePot_86 ?_
      have e : pRaise N (nI i) (nI k) = rfs 3 (kArea k - N (13 + 4 * i)) 0 0 := by unfold pRaise; rw [hcl, hck, hcn]; (repeat' split) <;> first | rfl | (exfalso; (simp only [Int32.lt_iff_toInt_lt, Int32.le_iff_toInt_le, ← Int32.toInt_inj, Int32.toInt_zero, t_1, t_2, t_3, t_4, t_5, t_6, t_7, t_8, t_9, t_10, t_11, t_12, t_13, t_14, t_16, t_20, t_30, t_32, t_48, t_50, t_57, t_60, t_90, t_99, t_120, t_126, t_m1, t_m2, t_m3, t_m4] at *; omega))
      rw [e]
      exact ⟨rfl, ⟨f1, d1, fun _ => R1, fun q => absurd rfl q, r1, r2⟩, F1⟩
  · first | refine x_aload_n 3 dX9_raisePot_45 rfl rfl ?_ | refine x_aload_nN 3 dX9_raisePot_45 rfl rfl ?_
    refine x_get fX9_21 rfl dX9_raisePot_46 (by with_reducible repeat first | assumption | exact hset_s | refine hget_n (by first | assumption | exact Ne.symm (by assumption) | exact nA (by assumption) (by omega) (by omega) (by omega)) ?_) (by rfl) ?_
    refine x_iconst (v := 1) dX9_raisePot_49 rfl ?_
    refine x_bipush (v := 16) dX9_raisePot_50 rfl ?_
    refine x_pV1 (mc1 := 0) (ms1 := 0) (As := [.int _, .int _]) (ct_X5_refuse (by assumption) (by assumption) _ _) vX9_29 rfl (x_recv (by with_reducible repeat first | assumption | exact hset_s | refine hget_n (by first | assumption | exact Ne.symm (by assumption) | exact nA (by assumption) (by omega) (by omega) (by omega)) ?_) rfl) rfl ⟨ble rfl, ble rfl⟩ (ble rfl) dX9_raisePot_52 rfl ⟨by omega, by omega⟩ (fun h52 q52 => ?_)
    obtain ⟨f1, d1, R1, r1, r2, F1⟩ := q52
    have hm1 := F1 _ _ hm (nB ok (by omega) (by omega) (by omega))
    refine x_iret rfl dX9_raisePot_55 ?_
    have e : pRaise N (nI i) (nI k) = rfs 1 16 0 0 := by unfold pRaise; rw [hcl, hck, hcn]; (repeat' split) <;> first | rfl | (exfalso; (simp only [Int32.lt_iff_toInt_lt, Int32.le_iff_toInt_le, ← Int32.toInt_inj, Int32.toInt_zero, t_1, t_2, t_3, t_4, t_5, t_6, t_7, t_8, t_9, t_10, t_11, t_12, t_13, t_14, t_16, t_20, t_30, t_32, t_48, t_50, t_57, t_60, t_90, t_99, t_120, t_126, t_m1, t_m2, t_m3, t_m4] at *; omega))
    rw [e]
    exact ⟨rfl, ⟨f1, d1, fun _ => R1, fun q => absurd rfl q, r1, r2⟩, F1⟩
set_option maxRecDepth 100000 in
set_option maxHeartbeats 4000000 in
theorem ct_X9_hit_o {l : Launch} {G : Gl} {h : Hp} {N : Nat → Int32} {ns np no c : Nat} {f d : Nat → Int32} (ok : Ok G) (H : ShW G h 1000 N ns np no) (R : RsW G h c f d) (hm : h (Ad G 1) = some (.inr (9, [.ref (Ad G 1000), .ref (Ad G 2)]))) (x y : Int32) (hx : ¬ (0 ≤ x ∧ x < N 3)) : CtP l G mX9_hit 4 (0) (0) [.ref (Ad G 1), .int x, .int y] h (some (.int (ansC (pHit N x y)))) (fun h' => SmP G h (pHit N x y) N ns np no c f d h') := by
  obtain ⟨hsh, has, hap, hao, -, hns, hnp, hno, bs, bp, bo, hS, hP, hO, -⟩ := id H
  obtain ⟨gp, fs, fp, fo, S0, F0⟩ := id H.sh
  have hr2 := R.1
  have tns : (N 2).toInt = ns := by rw [hns]; exact nI_toInt (by omega)
  have tnp : (N 3).toInt = np := by rw [hnp]; exact nI_toInt (by omega)
  have tno : (N 4).toInt = no := by rw [hno]; exact nI_toInt (by omega)
  refine Ct.of (L := [(0, _), (1, _), (2, _)]) (by decide) (ble rfl) rfl ?_
  first | refine x_aload_n 0 dX9_hit_0 rfl rfl ?_ | refine x_aload_nN 0 dX9_hit_0 rfl rfl ?_
  refine x_get fX9_12 rfl dX9_hit_1 (by with_reducible repeat first | assumption | exact hset_s | refine hget_n (by first | assumption | exact Ne.symm (by assumption) | exact nA (by assumption) (by omega) (by omega) (by omega)) ?_) (by rfl) ?_
  refine x_iload_n 1 dX9_hit_4 rfl rfl ?_
  refine x_cV1 (As := [.int _]) (ct_X8_potAt_out ok (by omega) H hx) vX9_77 rfl (x_recv (by with_reducible repeat first | assumption | exact hset_s | refine hget_n (by first | assumption | exact Ne.symm (by assumption) | exact nA (by assumption) (by omega) (by omega) (by omega)) ?_) rfl) rfl ⟨ble rfl, ble rfl⟩ (ble rfl) dX9_hit_5 rfl ?_
  first | refine x_astore_n (L' := [(3, _), (0, _), (1, _), (2, _)]) dX9_hit_8 rfl (ble rfl) rfl ?_ | refine x_astore_nN (L' := [(3, _), (0, _), (1, _), (2, _)]) dX9_hit_8 rfl (ble rfl) rfl ?_
  first | refine x_aload_n 0 dX9_hit_9 rfl rfl ?_ | refine x_aload_nN 0 dX9_hit_9 rfl rfl ?_
  refine x_ifnonnullN 15 dX9_hit_10 (by decide) ?_
  refine x_iconst (v := -1) dX9_hit_13 rfl ?_
  refine x_iret rfl dX9_hit_14 ?_
  have e : pHit N x y = cod (-1) := by unfold pHit; (repeat' split) <;> first | rfl | (exfalso; (simp only [Int32.lt_iff_toInt_lt, Int32.le_iff_toInt_le, ← Int32.toInt_inj, Int32.toInt_zero, t_1, t_2, t_3, t_4, t_5, t_6, t_7, t_8, t_9, t_10, t_11, t_12, t_13, t_14, t_16, t_20, t_30, t_32, t_48, t_50, t_57, t_60, t_90, t_99, t_120, t_126, t_m1, t_m2, t_m3, t_m4] at *; omega))
  rw [e]
  exact ⟨rfl, rfl⟩
set_option maxRecDepth 100000 in
set_option maxHeartbeats 4000000 in
theorem ct_X9_hit_i {l : Launch} {G : Gl} {h : Hp} {N : Nat → Int32} {ns np no c : Nat} {f d : Nat → Int32} (ok : Ok G) (H : ShW G h 1000 N ns np no) (R : RsW G h c f d) (hm : h (Ad G 1) = some (.inr (9, [.ref (Ad G 1000), .ref (Ad G 2)]))) {i : Nat} (hi : i < np) (x : Int32) : CtP l G mX9_hit 4 (0) (0) [.ref (Ad G 1), .int (nI i), .int x] h (some (.int (ansC (pHit N (nI i) x)))) (fun h' => SmP G h (pHit N (nI i) x) N ns np no c f d h') := by
  obtain ⟨hsh, has, hap, hao, -, hns, hnp, hno, bs, bp, bo, hS, hP, hO, -⟩ := id H
  obtain ⟨gp, fs, fp, fo, S0, F0⟩ := id H.sh
  have hr2 := R.1
  have tns : (N 2).toInt = ns := by rw [hns]; exact nI_toInt (by omega)
  have tnp : (N 3).toInt = np := by rw [hnp]; exact nI_toInt (by omega)
  have tno : (N 4).toInt = no := by rw [hno]; exact nI_toInt (by omega)
  have hcl := kOf_nI (j := i) (by omega)
  have ti := nI_toInt (n := i) (by omega)
  obtain ⟨hk, hp⟩ := hP i hi
  refine Ct.of (L := [(0, _), (1, _), (2, _)]) (by decide) (ble rfl) rfl ?_
  first | refine x_aload_n 0 dX9_hit_0 rfl rfl ?_ | refine x_aload_nN 0 dX9_hit_0 rfl rfl ?_
  refine x_get fX9_12 rfl dX9_hit_1 (by with_reducible repeat first | assumption | exact hset_s | refine hget_n (by first | assumption | exact Ne.symm (by assumption) | exact nA (by assumption) (by omega) (by omega) (by omega)) ?_) (by rfl) ?_
  refine x_iload_n 1 dX9_hit_4 rfl rfl ?_
  refine x_cV1 (As := [.int _]) (ct_X8_potAt_in ok (by omega) H (by assumption)) vX9_77 rfl (x_recv (by with_reducible repeat first | assumption | exact hset_s | refine hget_n (by first | assumption | exact Ne.symm (by assumption) | exact nA (by assumption) (by omega) (by omega) (by omega)) ?_) rfl) rfl ⟨ble rfl, ble rfl⟩ (ble rfl) dX9_hit_5 rfl ?_
  first | refine x_astore_n (L' := [(3, _), (0, _), (1, _), (2, _)]) dX9_hit_8 rfl (ble rfl) rfl ?_ | refine x_astore_nN (L' := [(3, _), (0, _), (1, _), (2, _)]) dX9_hit_8 rfl (ble rfl) rfl ?_
  first | refine x_aload_n 0 dX9_hit_9 rfl rfl ?_ | refine x_aload_nN 0 dX9_hit_9 rfl rfl ?_
  refine x_ifnonnull 15 dX9_hit_10 (by decide) ?_
  refine x_iload_n 3 dX9_hit_15 rfl rfl ?_
  refine x_iconst (v := 1) dX9_hit_16 rfl ?_
  refine x_icmp_lt 26 dX9_hit_17 (by decide) (fun c17 => ?_) (fun c17 => ?_)
  · refine x_bipush (v := -2) dX9_hit_26 rfl ?_
    refine x_iret rfl dX9_hit_28 ?_
    have e : pHit N (nI i) x = cod (-2) := by unfold pHit; (repeat' split) <;> first | rfl | (exfalso; (simp only [Int32.lt_iff_toInt_lt, Int32.le_iff_toInt_le, ← Int32.toInt_inj, Int32.toInt_zero, t_1, t_2, t_3, t_4, t_5, t_6, t_7, t_8, t_9, t_10, t_11, t_12, t_13, t_14, t_16, t_20, t_30, t_32, t_48, t_50, t_57, t_60, t_90, t_99, t_120, t_126, t_m1, t_m2, t_m3, t_m4] at *; omega))
    rw [e]
    exact ⟨rfl, rfl⟩
  · refine x_iload_n 3 dX9_hit_20 rfl rfl ?_
    refine x_bipush (v := 99) dX9_hit_21 rfl ?_
    refine x_icmp_le 29 dX9_hit_23 (by decide) (fun c23 => ?_) (fun c23 => ?_)
    · first | refine x_aload_n 1 dX9_hit_29 rfl rfl ?_ | refine x_aload_nN 1 dX9_hit_29 rfl rfl ?_
      first | refine x_aload_n 0 dX9_hit_30 rfl rfl ?_ | refine x_aload_nN 0 dX9_hit_30 rfl rfl ?_
      refine x_pV1 (mc1 := 0) (ms1 := 0) (As := [.ref _]) (ct_X9_isWorkable ok H R hm hi) vX9_81 rfl (x_recv hm rfl) rfl ⟨ble rfl, ble rfl⟩ (ble rfl) dX9_hit_31 rfl ⟨by omega, by omega⟩ (fun hw q31 => ?_)
      refine x_if_ne 40 dX9_hit_34 (by decide) (fun c34 => ?_) (fun c34 => ?_)
      · obtain ⟨e1, rfl, e2⟩ := q31.resolve_right (fun z => c34 z.1)
        first | refine x_aload_n 0 dX9_hit_40 rfl rfl ?_ | refine x_aload_nN 0 dX9_hit_40 rfl rfl ?_
        refine x_dup dX9_hit_41 rfl ?_
        refine x_get fX9_85 rfl dX9_hit_42 (by with_reducible repeat first | assumption | exact hset_s | refine hget_n (by first | assumption | exact Ne.symm (by assumption) | exact nA (by assumption) (by omega) (by omega) (by omega)) ?_) (by rfl) ?_
        refine x_iload_n 3 dX9_hit_45 rfl rfl ?_
        refine x_iadd dX9_hit_46 ?_
        refine x_put fX9_85 rfl rfl rfl rfl dX9_hit_47 (by with_reducible repeat first | assumption | exact hset_s | refine hget_n (by first | assumption | exact Ne.symm (by assumption) | exact nA (by assumption) (by omega) (by omega) (by omega)) ?_) (by exact ble rfl) (by first | assumption | exact aA (by assumption) (by omega)) ?_
        first | refine x_aload_n 0 dX9_hit_50 rfl rfl ?_ | refine x_aload_nN 0 dX9_hit_50 rfl rfl ?_
        refine x_cV1 (As := []) (ct_X4_thickness (by exact hset_s) hk) vX9_88 rfl (x_recv (by with_reducible repeat first | assumption | exact hset_s | refine hget_n (by first | assumption | exact Ne.symm (by assumption) | exact nA (by assumption) (by omega) (by omega) (by omega)) ?_) rfl) rfl ⟨ble rfl, ble rfl⟩ (ble rfl) dX9_hit_51 rfl ?_
        refine x_iret rfl dX9_hit_54 ?_
        have e : pHit N (nI i) x = okk (thickK (kOf (N (60 + 8 * i))) (N (61 + 8 * i)) (N (62 + 8 * i) + x)) (upd (upd N (62 + 8 * i) (N (62 + 8 * i) + x)) 5 (N 5 + x)) := by unfold pHit; rw [hcl, e2]; (repeat' split) <;> first | rfl | (exfalso; (simp only [Int32.lt_iff_toInt_lt, Int32.le_iff_toInt_le, ← Int32.toInt_inj, Int32.toInt_zero, t_1, t_2, t_3, t_4, t_5, t_6, t_7, t_8, t_9, t_10, t_11, t_12, t_13, t_14, t_16, t_20, t_30, t_32, t_48, t_50, t_57, t_60, t_90, t_99, t_120, t_126, t_m1, t_m2, t_m3, t_m4] at *; omega))
        rw [e]
        refine ⟨rfl, ⟨ns, np, no, ShW.mk2 (((S0.pot ok (by omega) (show i < 16 by omega) _)).cg ?_ (fun _ _ => rfl) (fun _ _ => rfl) (fun _ _ => rfl)) F0 ⟨?_, ?_, ?_, by omega, by omega, by omega⟩ ?_ ?_ ?_⟩, Fr.st (Fr.rf) (inB_2 (by omega))⟩
        · unfold eShop; simp (disch := omega) only [upd_ne, upd_eq]; try rfl
        · simp (disch := omega) only [upd_ne, upd_eq]; exact hns
        · simp (disch := omega) only [upd_ne, upd_eq]; exact hnp
        · simp (disch := omega) only [upd_ne, upd_eq]; exact hno
        · intro i1 hi1; exact Or.inl ⟨rfl, fun hi2 => ⟨hi2, fun q2 hq2 => by simp (disch := omega) only [upd_ne, upd_eq]⟩⟩
        · intro i1 hi1; by_cases q : i1 = i
          · refine Or.inr ?_; rw [q]; simp only [va_u_eq]; rw [show kOf ((upd (upd N (62 + 8 * i) (N (62 + 8 * i) + x)) 5 (N 5 + x)) (60 + 8 * i)) = kOf (N (60 + 8 * i)) by simp (disch := omega) only [upd_ne, upd_eq]]; exact ⟨by unfold pC; simp (disch := omega) only [upd_ne, upd_eq]; (try rfl), hk⟩
          · refine Or.inl ⟨by simp only [va_u_ne q], fun hi2 => ⟨by omega, fun q2 hq2 => by simp (disch := omega) only [upd_ne, upd_eq]⟩⟩
        · intro i1 hi1; exact Or.inl ⟨rfl, fun hi2 => ⟨hi2, fun q2 hq2 => by simp (disch := omega) only [upd_ne, upd_eq]⟩⟩
      · refine x_bipush (v := -3) dX9_hit_37 rfl ?_
        refine x_iret rfl dX9_hit_39 ?_
        rcases q31 with ⟨e1, -⟩ | ⟨e0, w, dd, e2, ⟨f1, d1, R1, r1, r2⟩, F1⟩
        · rw [c34] at e1; exact absurd e1 (by decide)
        have e : pHit N (nI i) x = rfs w dd 0 0 := by unfold pHit; rw [e2]; (repeat' split) <;> first | rfl | (exfalso; (simp only [Int32.lt_iff_toInt_lt, Int32.le_iff_toInt_le, ← Int32.toInt_inj, Int32.toInt_zero, t_1, t_2, t_3, t_4, t_5, t_6, t_7, t_8, t_9, t_10, t_11, t_12, t_13, t_14, t_16, t_20, t_30, t_32, t_48, t_50, t_57, t_60, t_90, t_99, t_120, t_126, t_m1, t_m2, t_m3, t_m4] at *; omega))
        rw [e]
        exact ⟨rfl, ⟨f1, d1, fun _ => R1, fun q => absurd rfl q, r1, r2⟩, F1⟩
    · refine x_bipush (v := -2) dX9_hit_26 rfl ?_
      refine x_iret rfl dX9_hit_28 ?_
      have e : pHit N (nI i) x = cod (-2) := by unfold pHit; (repeat' split) <;> first | rfl | (exfalso; (simp only [Int32.lt_iff_toInt_lt, Int32.le_iff_toInt_le, ← Int32.toInt_inj, Int32.toInt_zero, t_1, t_2, t_3, t_4, t_5, t_6, t_7, t_8, t_9, t_10, t_11, t_12, t_13, t_14, t_16, t_20, t_30, t_32, t_48, t_50, t_57, t_60, t_90, t_99, t_120, t_126, t_m1, t_m2, t_m3, t_m4] at *; omega))
      rw [e]
      exact ⟨rfl, rfl⟩
set_option maxRecDepth 100000 in
set_option maxHeartbeats 4000000 in
theorem ct_X9_coat_o {l : Launch} {G : Gl} {h : Hp} {N : Nat → Int32} {ns np no c : Nat} {f d : Nat → Int32} (ok : Ok G) (H : ShW G h 1000 N ns np no) (R : RsW G h c f d) (hm : h (Ad G 1) = some (.inr (9, [.ref (Ad G 1000), .ref (Ad G 2)]))) (x y : Int32) (hx : ¬ (0 ≤ x ∧ x < N 3)) : CtP l G mX9_coat 4 (0) (0) [.ref (Ad G 1), .int x, .int y] h (some (.int (ansC (pTin N x y)))) (fun h' => SmP G h (pTin N x y) N ns np no c f d h') := by
  obtain ⟨hsh, has, hap, hao, -, hns, hnp, hno, bs, bp, bo, hS, hP, hO, -⟩ := id H
  obtain ⟨gp, fs, fp, fo, S0, F0⟩ := id H.sh
  have hr2 := R.1
  have tns : (N 2).toInt = ns := by rw [hns]; exact nI_toInt (by omega)
  have tnp : (N 3).toInt = np := by rw [hnp]; exact nI_toInt (by omega)
  have tno : (N 4).toInt = no := by rw [hno]; exact nI_toInt (by omega)
  refine Ct.of (L := [(0, _), (1, _), (2, _)]) (by decide) (ble rfl) rfl ?_
  first | refine x_aload_n 0 dX9_coat_0 rfl rfl ?_ | refine x_aload_nN 0 dX9_coat_0 rfl rfl ?_
  refine x_get fX9_12 rfl dX9_coat_1 (by with_reducible repeat first | assumption | exact hset_s | refine hget_n (by first | assumption | exact Ne.symm (by assumption) | exact nA (by assumption) (by omega) (by omega) (by omega)) ?_) (by rfl) ?_
  refine x_iload_n 1 dX9_coat_4 rfl rfl ?_
  refine x_cV1 (As := [.int _]) (ct_X8_potAt_out ok (by omega) H hx) vX9_77 rfl (x_recv (by with_reducible repeat first | assumption | exact hset_s | refine hget_n (by first | assumption | exact Ne.symm (by assumption) | exact nA (by assumption) (by omega) (by omega) (by omega)) ?_) rfl) rfl ⟨ble rfl, ble rfl⟩ (ble rfl) dX9_coat_5 rfl ?_
  first | refine x_astore_n (L' := [(3, _), (0, _), (1, _), (2, _)]) dX9_coat_8 rfl (ble rfl) rfl ?_ | refine x_astore_nN (L' := [(3, _), (0, _), (1, _), (2, _)]) dX9_coat_8 rfl (ble rfl) rfl ?_
  first | refine x_aload_n 0 dX9_coat_9 rfl rfl ?_ | refine x_aload_nN 0 dX9_coat_9 rfl rfl ?_
  refine x_ifnonnullN 15 dX9_coat_10 (by decide) ?_
  refine x_iconst (v := -1) dX9_coat_13 rfl ?_
  refine x_iret rfl dX9_coat_14 ?_
  have e : pTin N x y = cod (-1) := by unfold pTin; (repeat' split) <;> first | rfl | (exfalso; (simp only [Int32.lt_iff_toInt_lt, Int32.le_iff_toInt_le, ← Int32.toInt_inj, Int32.toInt_zero, t_1, t_2, t_3, t_4, t_5, t_6, t_7, t_8, t_9, t_10, t_11, t_12, t_13, t_14, t_16, t_20, t_30, t_32, t_48, t_50, t_57, t_60, t_90, t_99, t_120, t_126, t_m1, t_m2, t_m3, t_m4] at *; omega))
  rw [e]
  exact ⟨rfl, rfl⟩
set_option maxRecDepth 100000 in
set_option maxHeartbeats 4000000 in
theorem ct_X9_coat_i {l : Launch} {G : Gl} {h : Hp} {N : Nat → Int32} {ns np no c : Nat} {f d : Nat → Int32} (ok : Ok G) (H : ShW G h 1000 N ns np no) (R : RsW G h c f d) (hm : h (Ad G 1) = some (.inr (9, [.ref (Ad G 1000), .ref (Ad G 2)]))) {i : Nat} (hi : i < np) (x : Int32) : CtP l G mX9_coat 4 (0) (0) [.ref (Ad G 1), .int (nI i), .int x] h (some (.int (ansC (pTin N (nI i) x)))) (fun h' => SmP G h (pTin N (nI i) x) N ns np no c f d h') := by
  obtain ⟨hsh, has, hap, hao, -, hns, hnp, hno, bs, bp, bo, hS, hP, hO, -⟩ := id H
  obtain ⟨gp, fs, fp, fo, S0, F0⟩ := id H.sh
  have hr2 := R.1
  have tns : (N 2).toInt = ns := by rw [hns]; exact nI_toInt (by omega)
  have tnp : (N 3).toInt = np := by rw [hnp]; exact nI_toInt (by omega)
  have tno : (N 4).toInt = no := by rw [hno]; exact nI_toInt (by omega)
  have hcl := kOf_nI (j := i) (by omega)
  have ti := nI_toInt (n := i) (by omega)
  obtain ⟨hk, hp⟩ := hP i hi
  refine Ct.of (L := [(0, _), (1, _), (2, _)]) (by decide) (ble rfl) rfl ?_
  first | refine x_aload_n 0 dX9_coat_0 rfl rfl ?_ | refine x_aload_nN 0 dX9_coat_0 rfl rfl ?_
  refine x_get fX9_12 rfl dX9_coat_1 (by with_reducible repeat first | assumption | exact hset_s | refine hget_n (by first | assumption | exact Ne.symm (by assumption) | exact nA (by assumption) (by omega) (by omega) (by omega)) ?_) (by rfl) ?_
  refine x_iload_n 1 dX9_coat_4 rfl rfl ?_
  refine x_cV1 (As := [.int _]) (ct_X8_potAt_in ok (by omega) H (by assumption)) vX9_77 rfl (x_recv (by with_reducible repeat first | assumption | exact hset_s | refine hget_n (by first | assumption | exact Ne.symm (by assumption) | exact nA (by assumption) (by omega) (by omega) (by omega)) ?_) rfl) rfl ⟨ble rfl, ble rfl⟩ (ble rfl) dX9_coat_5 rfl ?_
  first | refine x_astore_n (L' := [(3, _), (0, _), (1, _), (2, _)]) dX9_coat_8 rfl (ble rfl) rfl ?_ | refine x_astore_nN (L' := [(3, _), (0, _), (1, _), (2, _)]) dX9_coat_8 rfl (ble rfl) rfl ?_
  first | refine x_aload_n 0 dX9_coat_9 rfl rfl ?_ | refine x_aload_nN 0 dX9_coat_9 rfl rfl ?_
  refine x_ifnonnull 15 dX9_coat_10 (by decide) ?_
  refine x_iload_n 3 dX9_coat_15 rfl rfl ?_
  refine x_iconst (v := 1) dX9_coat_16 rfl ?_
  refine x_icmp_lt 26 dX9_coat_17 (by decide) (fun c17 => ?_) (fun c17 => ?_)
  · refine x_bipush (v := -2) dX9_coat_26 rfl ?_
    refine x_iret rfl dX9_coat_28 ?_
    have e : pTin N (nI i) x = cod (-2) := by unfold pTin; (repeat' split) <;> first | rfl | (exfalso; (simp only [Int32.lt_iff_toInt_lt, Int32.le_iff_toInt_le, ← Int32.toInt_inj, Int32.toInt_zero, t_1, t_2, t_3, t_4, t_5, t_6, t_7, t_8, t_9, t_10, t_11, t_12, t_13, t_14, t_16, t_20, t_30, t_32, t_48, t_50, t_57, t_60, t_90, t_99, t_120, t_126, t_m1, t_m2, t_m3, t_m4] at *; omega))
    rw [e]
    exact ⟨rfl, rfl⟩
  · refine x_iload_n 3 dX9_coat_20 rfl rfl ?_
    refine x_bipush (v := 9) dX9_coat_21 rfl ?_
    refine x_icmp_le 29 dX9_coat_23 (by decide) (fun c23 => ?_) (fun c23 => ?_)
    · first | refine x_aload_n 1 dX9_coat_29 rfl rfl ?_ | refine x_aload_nN 1 dX9_coat_29 rfl rfl ?_
      first | refine x_aload_n 0 dX9_coat_30 rfl rfl ?_ | refine x_aload_nN 0 dX9_coat_30 rfl rfl ?_
      refine x_pV1 (mc1 := 0) (ms1 := 0) (As := [.ref _]) (ct_X9_isWorkable ok H R hm hi) vX9_81 rfl (x_recv hm rfl) rfl ⟨ble rfl, ble rfl⟩ (ble rfl) dX9_coat_31 rfl ⟨by omega, by omega⟩ (fun hw q31 => ?_)
      refine x_if_ne 40 dX9_coat_34 (by decide) (fun c34 => ?_) (fun c34 => ?_)
      · obtain ⟨e1, rfl, e2⟩ := q31.resolve_right (fun z => c34 z.1)
        first | refine x_aload_n 0 dX9_coat_40 rfl rfl ?_ | refine x_aload_nN 0 dX9_coat_40 rfl rfl ?_
        refine x_cV1 (As := []) (ct_X4_isSmooth (by with_reducible repeat first | assumption | exact hset_s | refine hget_n (by first | assumption | exact Ne.symm (by assumption) | exact nA (by assumption) (by omega) (by omega) (by omega)) ?_) (by assumption)) vX9_98 rfl (x_recv (by with_reducible repeat first | assumption | exact hset_s | refine hget_n (by first | assumption | exact Ne.symm (by assumption) | exact nA (by assumption) (by omega) (by omega) (by omega)) ?_) rfl) rfl ⟨ble rfl, ble rfl⟩ (ble rfl) dX9_coat_41 rfl ?_
        refine x_if_ne 68 dX9_coat_44 (by decide) (fun c44 => ?_) (fun c44 => ?_)
        · have hsm : ¬ N (62 + 8 * i) < kSm (kOf (N (60 + 8 * i))) := by unfold smoothK at c44; split at c44; exact absurd rfl c44; assumption
          first | refine x_aload_n 0 dX9_coat_68 rfl rfl ?_ | refine x_aload_nN 0 dX9_coat_68 rfl rfl ?_
          refine x_get fX9_113 rfl dX9_coat_69 (by with_reducible repeat first | assumption | exact hset_s | refine hget_n (by first | assumption | exact Ne.symm (by assumption) | exact nA (by assumption) (by omega) (by omega) (by omega)) ?_) (by rfl) ?_
          refine x_iload_n 3 dX9_coat_72 rfl rfl ?_
          refine x_iadd dX9_coat_73 ?_
          refine x_bipush (v := 9) dX9_coat_74 rfl ?_
          refine x_icmp_le 95 dX9_coat_76 (by decide) (fun c76 => ?_) (fun c76 => ?_)
          · first | refine x_aload_n 0 dX9_coat_95 rfl rfl ?_ | refine x_aload_nN 0 dX9_coat_95 rfl rfl ?_
            refine x_get fX9_102 rfl dX9_coat_96 (by with_reducible repeat first | assumption | exact hset_s | refine hget_n (by first | assumption | exact Ne.symm (by assumption) | exact nA (by assumption) (by omega) (by omega) (by omega)) ?_) (by rfl) ?_
            refine x_iload_n 3 dX9_coat_99 rfl rfl ?_
            refine x_cV1 (As := [.int _]) (ct_X2_barsOf hk _) vX9_116 rfl (x_recvO (zK_obj (by assumption))) rfl ⟨ble rfl, ble rfl⟩ (ble rfl) dX9_coat_100 rfl ?_
            refine x_istore (L' := [(4, _), (3, _), (0, _), (1, _), (2, _)]) dX9_coat_103 (ble rfl) rfl ?_
            first | refine x_aload_n 2 dX9_coat_105 rfl rfl ?_ | refine x_aload_nN 2 dX9_coat_105 rfl rfl ?_
            refine x_get fX9_12 rfl dX9_coat_106 (by with_reducible repeat first | assumption | exact hset_s | refine hget_n (by first | assumption | exact Ne.symm (by assumption) | exact nA (by assumption) (by omega) (by omega) (by omega)) ?_) (by rfl) ?_
            refine x_get fX9_92 rfl dX9_coat_109 (by with_reducible repeat first | assumption | exact hset_s | refine hget_n (by first | assumption | exact Ne.symm (by assumption) | exact nA (by assumption) (by omega) (by omega) (by omega)) ?_) (by rfl) ?_
            refine x_iload 0 dX9_coat_112 rfl ?_
            refine x_icmp_ge 137 dX9_coat_114 (by decide) (fun c114 => ?_) (fun c114 => ?_)
            · first | refine x_aload_n 2 dX9_coat_137 rfl rfl ?_ | refine x_aload_nN 2 dX9_coat_137 rfl rfl ?_
              refine x_get fX9_12 rfl dX9_coat_138 (by with_reducible repeat first | assumption | exact hset_s | refine hget_n (by first | assumption | exact Ne.symm (by assumption) | exact nA (by assumption) (by omega) (by omega) (by omega)) ?_) (by rfl) ?_
              refine x_dup dX9_coat_141 rfl ?_
              refine x_get fX9_92 rfl dX9_coat_142 (by with_reducible repeat first | assumption | exact hset_s | refine hget_n (by first | assumption | exact Ne.symm (by assumption) | exact nA (by assumption) (by omega) (by omega) (by omega)) ?_) (by rfl) ?_
              refine x_iload 0 dX9_coat_145 rfl ?_
              refine x_isub dX9_coat_147 ?_
              refine x_put fX9_92 rfl rfl rfl rfl dX9_coat_148 (by with_reducible repeat first | assumption | exact hset_s | refine hget_n (by first | assumption | exact Ne.symm (by assumption) | exact nA (by assumption) (by omega) (by omega) (by omega)) ?_) (by exact ble rfl) (by first | assumption | exact aA (by assumption) (by omega)) ?_
              first | refine x_aload_n 2 dX9_coat_151 rfl rfl ?_ | refine x_aload_nN 2 dX9_coat_151 rfl rfl ?_
              refine x_get fX9_12 rfl dX9_coat_152 (by with_reducible repeat first | assumption | exact hset_s | refine hget_n (by first | assumption | exact Ne.symm (by assumption) | exact nA (by assumption) (by omega) (by omega) (by omega)) ?_) (by rfl) ?_
              refine x_dup dX9_coat_155 rfl ?_
              refine x_get fX9_119 rfl dX9_coat_156 (by with_reducible repeat first | assumption | exact hset_s | refine hget_n (by first | assumption | exact Ne.symm (by assumption) | exact nA (by assumption) (by omega) (by omega) (by omega)) ?_) (by rfl) ?_
              refine x_iload 0 dX9_coat_159 rfl ?_
              refine x_iadd dX9_coat_161 ?_
              refine x_putS fX9_119 rfl rfl rfl rfl dX9_coat_162 (by exact ble rfl) (by first | assumption | exact aA (by assumption) (by omega)) ?_
              first | refine x_aload_n 2 dX9_coat_165 rfl rfl ?_ | refine x_aload_nN 2 dX9_coat_165 rfl rfl ?_
              refine x_get fX9_12 rfl dX9_coat_166 (by with_reducible repeat first | assumption | exact hset_s | refine hget_n (by first | assumption | exact Ne.symm (by assumption) | exact nA (by assumption) (by omega) (by omega) (by omega)) ?_) (by rfl) ?_
              refine x_dup dX9_coat_169 rfl ?_
              refine x_get fX9_122 rfl dX9_coat_170 (by with_reducible repeat first | assumption | exact hset_s | refine hget_n (by first | assumption | exact Ne.symm (by assumption) | exact nA (by assumption) (by omega) (by omega) (by omega)) ?_) (by rfl) ?_
              refine x_iload_n 4 dX9_coat_173 rfl rfl ?_
              refine x_iadd dX9_coat_174 ?_
              refine x_putS fX9_122 rfl rfl rfl rfl dX9_coat_175 (by exact ble rfl) (by first | assumption | exact aA (by assumption) (by omega)) ?_
              first | refine x_aload_n 1 dX9_coat_178 rfl rfl ?_ | refine x_aload_nN 1 dX9_coat_178 rfl rfl ?_
              refine x_dup dX9_coat_179 rfl ?_
              refine x_get fX9_113 rfl dX9_coat_180 (by with_reducible repeat first | assumption | exact hset_s | refine hget_n (by first | assumption | exact Ne.symm (by assumption) | exact nA (by assumption) (by omega) (by omega) (by omega)) ?_) (by rfl) ?_
              refine x_iload_n 4 dX9_coat_183 rfl rfl ?_
              refine x_iadd dX9_coat_184 ?_
              refine x_put fX9_113 rfl rfl rfl rfl dX9_coat_185 (by with_reducible repeat first | assumption | exact hset_s | refine hget_n (by first | assumption | exact Ne.symm (by assumption) | exact nA (by assumption) (by omega) (by omega) (by omega)) ?_) (by exact ble rfl) (by first | assumption | exact aA (by assumption) (by omega)) ?_
              first | refine x_aload_n 1 dX9_coat_188 rfl rfl ?_ | refine x_aload_nN 1 dX9_coat_188 rfl rfl ?_
              refine x_get fX9_113 rfl dX9_coat_189 (by with_reducible repeat first | assumption | exact hset_s | refine hget_n (by first | assumption | exact Ne.symm (by assumption) | exact nA (by assumption) (by omega) (by omega) (by omega)) ?_) (by rfl) ?_
              refine x_iret rfl dX9_coat_192 ?_
              have e : pTin N (nI i) x = okk (N (63 + 8 * i) + x) (upd (upd (upd (upd N (63 + 8 * i) (N (63 + 8 * i) + x)) 1 (N 1 - (kArea (kOf (N (60 + 8 * i))) * x + 3) / 4)) 8 (N 8 + (kArea (kOf (N (60 + 8 * i))) * x + 3) / 4)) 7 (N 7 + x)) := by unfold pTin; rw [e2, hcl]; (repeat' split) <;> first | rfl | (exfalso; (simp only [Int32.lt_iff_toInt_lt, Int32.le_iff_toInt_le, ← Int32.toInt_inj, Int32.toInt_zero, t_1, t_2, t_3, t_4, t_5, t_6, t_7, t_8, t_9, t_10, t_11, t_12, t_13, t_14, t_16, t_20, t_30, t_32, t_48, t_50, t_57, t_60, t_90, t_99, t_120, t_126, t_m1, t_m2, t_m3, t_m4] at *; omega))
              rw [e]
              refine ⟨rfl, ⟨ns, np, no, ShW.mk2 (((S0.shop ok (by omega) _).pot ok (by omega) (show i < 16 by omega) _).cg ?_ (fun _ _ => rfl) (fun _ _ => rfl) (fun _ _ => rfl)) F0 ⟨?_, ?_, ?_, by omega, by omega, by omega⟩ ?_ ?_ ?_⟩, Fr.st (Fr.st (Fr.rf) (inB_0 (by omega))) (inB_2 (by omega))⟩
              · unfold eShop; simp (disch := omega) only [upd_ne, upd_eq]; try rfl
              · simp (disch := omega) only [upd_ne, upd_eq]; exact hns
              · simp (disch := omega) only [upd_ne, upd_eq]; exact hnp
              · simp (disch := omega) only [upd_ne, upd_eq]; exact hno
              · intro i1 hi1; exact Or.inl ⟨rfl, fun hi2 => ⟨hi2, fun q2 hq2 => by simp (disch := omega) only [upd_ne, upd_eq]⟩⟩
              · intro i1 hi1; by_cases q : i1 = i
                · refine Or.inr ?_; rw [q]; simp only [va_u_eq]; rw [show kOf ((upd (upd (upd (upd N (63 + 8 * i) (N (63 + 8 * i) + x)) 1 (N 1 - (kArea (kOf (N (60 + 8 * i))) * x + 3) / 4)) 8 (N 8 + (kArea (kOf (N (60 + 8 * i))) * x + 3) / 4)) 7 (N 7 + x)) (60 + 8 * i)) = kOf (N (60 + 8 * i)) by simp (disch := omega) only [upd_ne, upd_eq]]; exact ⟨by unfold pC; simp (disch := omega) only [upd_ne, upd_eq]; (try rfl), hk⟩
                · refine Or.inl ⟨by simp only [va_u_ne q], fun hi2 => ⟨by omega, fun q2 hq2 => by simp (disch := omega) only [upd_ne, upd_eq]⟩⟩
              · intro i1 hi1; exact Or.inl ⟨rfl, fun hi2 => ⟨hi2, fun q2 hq2 => by simp (disch := omega) only [upd_ne, upd_eq]⟩⟩
            · first | refine x_aload_n 2 dX9_coat_117 rfl rfl ?_ | refine x_aload_nN 2 dX9_coat_117 rfl rfl ?_
              refine x_get fX9_21 rfl dX9_coat_118 (by with_reducible repeat first | assumption | exact hset_s | refine hget_n (by first | assumption | exact Ne.symm (by assumption) | exact nA (by assumption) (by omega) (by omega) (by omega)) ?_) (by rfl) ?_
              refine x_bipush (v := 8) dX9_coat_121 rfl ?_
              refine x_iload 0 dX9_coat_123 rfl ?_
              first | refine x_aload_n 2 dX9_coat_125 rfl rfl ?_ | refine x_aload_nN 2 dX9_coat_125 rfl rfl ?_
              refine x_get fX9_12 rfl dX9_coat_126 (by with_reducible repeat first | assumption | exact hset_s | refine hget_n (by first | assumption | exact Ne.symm (by assumption) | exact nA (by assumption) (by omega) (by omega) (by omega)) ?_) (by rfl) ?_
              refine x_get fX9_92 rfl dX9_coat_129 (by with_reducible repeat first | assumption | exact hset_s | refine hget_n (by first | assumption | exact Ne.symm (by assumption) | exact nA (by assumption) (by omega) (by omega) (by omega)) ?_) (by rfl) ?_
              refine x_isub dX9_coat_132 ?_
              refine x_pV1 (mc1 := 0) (ms1 := 0) (As := [.int _, .int _]) (ct_X5_refuse (by assumption) (by assumption) _ _) vX9_29 rfl (x_recv (by with_reducible repeat first | assumption | exact hset_s | refine hget_n (by first | assumption | exact Ne.symm (by assumption) | exact nA (by assumption) (by omega) (by omega) (by omega)) ?_) rfl) rfl ⟨ble rfl, ble rfl⟩ (ble rfl) dX9_coat_133 rfl ⟨by omega, by omega⟩ (fun h133 q133 => ?_)
              obtain ⟨f1, d1, R1, r1, r2, F1⟩ := q133
              have hm1 := F1 _ _ hm (nB ok (by omega) (by omega) (by omega))
              refine x_iret rfl dX9_coat_136 ?_
              have e : pTin N (nI i) x = rfs 8 ((kArea (kOf (N (60 + 8 * i))) * x + 3) / 4 - N 1) 0 0 := by unfold pTin; rw [e2, hcl]; (repeat' split) <;> first | rfl | (exfalso; (simp only [Int32.lt_iff_toInt_lt, Int32.le_iff_toInt_le, ← Int32.toInt_inj, Int32.toInt_zero, t_1, t_2, t_3, t_4, t_5, t_6, t_7, t_8, t_9, t_10, t_11, t_12, t_13, t_14, t_16, t_20, t_30, t_32, t_48, t_50, t_57, t_60, t_90, t_99, t_120, t_126, t_m1, t_m2, t_m3, t_m4] at *; omega))
              rw [e]
              exact ⟨rfl, ⟨f1, d1, fun _ => R1, fun q => absurd rfl q, r1, r2⟩, F1⟩
          · first | refine x_aload_n 1 dX9_coat_79 rfl rfl ?_ | refine x_aload_nN 1 dX9_coat_79 rfl rfl ?_
            refine x_get fX9_21 rfl dX9_coat_80 (by with_reducible repeat first | assumption | exact hset_s | refine hget_n (by first | assumption | exact Ne.symm (by assumption) | exact nA (by assumption) (by omega) (by omega) (by omega)) ?_) (by rfl) ?_
            refine x_bipush (v := 7) dX9_coat_83 rfl ?_
            first | refine x_aload_n 0 dX9_coat_85 rfl rfl ?_ | refine x_aload_nN 0 dX9_coat_85 rfl rfl ?_
            refine x_get fX9_113 rfl dX9_coat_86 (by with_reducible repeat first | assumption | exact hset_s | refine hget_n (by first | assumption | exact Ne.symm (by assumption) | exact nA (by assumption) (by omega) (by omega) (by omega)) ?_) (by rfl) ?_
            refine x_iload_n 3 dX9_coat_89 rfl rfl ?_
            refine x_iadd dX9_coat_90 ?_
            refine x_pV1 (mc1 := 0) (ms1 := 0) (As := [.int _, .int _]) (ct_X5_refuse (by assumption) (by assumption) _ _) vX9_29 rfl (x_recv (by with_reducible repeat first | assumption | exact hset_s | refine hget_n (by first | assumption | exact Ne.symm (by assumption) | exact nA (by assumption) (by omega) (by omega) (by omega)) ?_) rfl) rfl ⟨ble rfl, ble rfl⟩ (ble rfl) dX9_coat_91 rfl ⟨by omega, by omega⟩ (fun h91 q91 => ?_)
            obtain ⟨f1, d1, R1, r1, r2, F1⟩ := q91
            have hm1 := F1 _ _ hm (nB ok (by omega) (by omega) (by omega))
            refine x_iret rfl dX9_coat_94 ?_
            have e : pTin N (nI i) x = rfs 7 (N (63 + 8 * i) + x) 0 0 := by unfold pTin; rw [e2, hcl]; (repeat' split) <;> first | rfl | (exfalso; (simp only [Int32.lt_iff_toInt_lt, Int32.le_iff_toInt_le, ← Int32.toInt_inj, Int32.toInt_zero, t_1, t_2, t_3, t_4, t_5, t_6, t_7, t_8, t_9, t_10, t_11, t_12, t_13, t_14, t_16, t_20, t_30, t_32, t_48, t_50, t_57, t_60, t_90, t_99, t_120, t_126, t_m1, t_m2, t_m3, t_m4] at *; omega))
            rw [e]
            exact ⟨rfl, ⟨f1, d1, fun _ => R1, fun q => absurd rfl q, r1, r2⟩, F1⟩
        · have hsm : N (62 + 8 * i) < kSm (kOf (N (60 + 8 * i))) := by unfold smoothK at c44; split at c44; assumption; exact absurd c44 (by decide)
          first | refine x_aload_n 1 dX9_coat_47 rfl rfl ?_ | refine x_aload_nN 1 dX9_coat_47 rfl rfl ?_
          refine x_get fX9_21 rfl dX9_coat_48 (by with_reducible repeat first | assumption | exact hset_s | refine hget_n (by first | assumption | exact Ne.symm (by assumption) | exact nA (by assumption) (by omega) (by omega) (by omega)) ?_) (by rfl) ?_
          refine x_bipush (v := 6) dX9_coat_51 rfl ?_
          first | refine x_aload_n 0 dX9_coat_53 rfl rfl ?_ | refine x_aload_nN 0 dX9_coat_53 rfl rfl ?_
          first | refine x_aload_n 0 dX9_coat_54 rfl rfl ?_ | refine x_aload_nN 0 dX9_coat_54 rfl rfl ?_
          refine x_get fX9_102 rfl dX9_coat_55 (by with_reducible repeat first | assumption | exact hset_s | refine hget_n (by first | assumption | exact Ne.symm (by assumption) | exact nA (by assumption) (by omega) (by omega) (by omega)) ?_) (by rfl) ?_
          refine x_getO (zK_smoothBlows (by assumption)) rfl oX9_106 dX9_coat_58 ?_
          refine x_cV1 (As := [.int _]) (ct_X4_blowsMissing (by with_reducible repeat first | assumption | exact hset_s | refine hget_n (by first | assumption | exact Ne.symm (by assumption) | exact nA (by assumption) (by omega) (by omega) (by omega)) ?_) _) vX9_109 rfl (x_recv (by with_reducible repeat first | assumption | exact hset_s | refine hget_n (by first | assumption | exact Ne.symm (by assumption) | exact nA (by assumption) (by omega) (by omega) (by omega)) ?_) rfl) rfl ⟨ble rfl, ble rfl⟩ (ble rfl) dX9_coat_61 rfl ?_
          refine x_pV1 (mc1 := 0) (ms1 := 0) (As := [.int _, .int _]) (ct_X5_refuse (by assumption) (by assumption) _ _) vX9_29 rfl (x_recv (by with_reducible repeat first | assumption | exact hset_s | refine hget_n (by first | assumption | exact Ne.symm (by assumption) | exact nA (by assumption) (by omega) (by omega) (by omega)) ?_) rfl) rfl ⟨ble rfl, ble rfl⟩ (ble rfl) dX9_coat_64 rfl ⟨by omega, by omega⟩ (fun h64 q64 => ?_)
          obtain ⟨f1, d1, R1, r1, r2, F1⟩ := q64
          have hm1 := F1 _ _ hm (nB ok (by omega) (by omega) (by omega))
          refine x_iret rfl dX9_coat_67 ?_
          have e : pTin N (nI i) x = rfs 6 (mx (kSm (kOf (N (60 + 8 * i))) - N (62 + 8 * i)) 0) 0 0 := by unfold pTin; rw [e2, hcl]; (repeat' split) <;> first | rfl | (exfalso; (simp only [Int32.lt_iff_toInt_lt, Int32.le_iff_toInt_le, ← Int32.toInt_inj, Int32.toInt_zero, t_1, t_2, t_3, t_4, t_5, t_6, t_7, t_8, t_9, t_10, t_11, t_12, t_13, t_14, t_16, t_20, t_30, t_32, t_48, t_50, t_57, t_60, t_90, t_99, t_120, t_126, t_m1, t_m2, t_m3, t_m4] at *; omega))
          rw [e]
          exact ⟨rfl, ⟨f1, d1, fun _ => R1, fun q => absurd rfl q, r1, r2⟩, F1⟩
      · refine x_bipush (v := -3) dX9_coat_37 rfl ?_
        refine x_iret rfl dX9_coat_39 ?_
        rcases q31 with ⟨e1, -⟩ | ⟨e0, w, dd, e2, ⟨f1, d1, R1, r1, r2⟩, F1⟩
        · rw [c34] at e1; exact absurd e1 (by decide)
        have e : pTin N (nI i) x = rfs w dd 0 0 := by unfold pTin; rw [e2]; (repeat' split) <;> first | rfl | (exfalso; (simp only [Int32.lt_iff_toInt_lt, Int32.le_iff_toInt_le, ← Int32.toInt_inj, Int32.toInt_zero, t_1, t_2, t_3, t_4, t_5, t_6, t_7, t_8, t_9, t_10, t_11, t_12, t_13, t_14, t_16, t_20, t_30, t_32, t_48, t_50, t_57, t_60, t_90, t_99, t_120, t_126, t_m1, t_m2, t_m3, t_m4] at *; omega))
        rw [e]
        exact ⟨rfl, ⟨f1, d1, fun _ => R1, fun q => absurd rfl q, r1, r2⟩, F1⟩
    · refine x_bipush (v := -2) dX9_coat_26 rfl ?_
      refine x_iret rfl dX9_coat_28 ?_
      have e : pTin N (nI i) x = cod (-2) := by unfold pTin; (repeat' split) <;> first | rfl | (exfalso; (simp only [Int32.lt_iff_toInt_lt, Int32.le_iff_toInt_le, ← Int32.toInt_inj, Int32.toInt_zero, t_1, t_2, t_3, t_4, t_5, t_6, t_7, t_8, t_9, t_10, t_11, t_12, t_13, t_14, t_16, t_20, t_30, t_32, t_48, t_50, t_57, t_60, t_90, t_99, t_120, t_126, t_m1, t_m2, t_m3, t_m4] at *; omega))
      rw [e]
      exact ⟨rfl, rfl⟩
set_option maxRecDepth 100000 in
set_option maxHeartbeats 4000000 in
theorem ct_X9_use_o {l : Launch} {G : Gl} {h : Hp} {N : Nat → Int32} {ns np no c : Nat} {f d : Nat → Int32} (ok : Ok G) (H : ShW G h 1000 N ns np no) (R : RsW G h c f d) (hm : h (Ad G 1) = some (.inr (9, [.ref (Ad G 1000), .ref (Ad G 2)]))) (x y : Int32) (hx : ¬ (0 ≤ x ∧ x < N 3)) : CtP l G mX9_use 4 (0) (0) [.ref (Ad G 1), .int x, .int y] h (some (.int (ansC (pCook N x y)))) (fun h' => SmP G h (pCook N x y) N ns np no c f d h') := by
  obtain ⟨hsh, has, hap, hao, -, hns, hnp, hno, bs, bp, bo, hS, hP, hO, -⟩ := id H
  obtain ⟨gp, fs, fp, fo, S0, F0⟩ := id H.sh
  have hr2 := R.1
  have tns : (N 2).toInt = ns := by rw [hns]; exact nI_toInt (by omega)
  have tnp : (N 3).toInt = np := by rw [hnp]; exact nI_toInt (by omega)
  have tno : (N 4).toInt = no := by rw [hno]; exact nI_toInt (by omega)
  refine Ct.of (L := [(0, _), (1, _), (2, _)]) (by decide) (ble rfl) rfl ?_
  first | refine x_aload_n 0 dX9_use_0 rfl rfl ?_ | refine x_aload_nN 0 dX9_use_0 rfl rfl ?_
  refine x_get fX9_12 rfl dX9_use_1 (by with_reducible repeat first | assumption | exact hset_s | refine hget_n (by first | assumption | exact Ne.symm (by assumption) | exact nA (by assumption) (by omega) (by omega) (by omega)) ?_) (by rfl) ?_
  refine x_iload_n 1 dX9_use_4 rfl rfl ?_
  refine x_cV1 (As := [.int _]) (ct_X8_potAt_out ok (by omega) H hx) vX9_77 rfl (x_recv (by with_reducible repeat first | assumption | exact hset_s | refine hget_n (by first | assumption | exact Ne.symm (by assumption) | exact nA (by assumption) (by omega) (by omega) (by omega)) ?_) rfl) rfl ⟨ble rfl, ble rfl⟩ (ble rfl) dX9_use_5 rfl ?_
  first | refine x_astore_n (L' := [(3, _), (0, _), (1, _), (2, _)]) dX9_use_8 rfl (ble rfl) rfl ?_ | refine x_astore_nN (L' := [(3, _), (0, _), (1, _), (2, _)]) dX9_use_8 rfl (ble rfl) rfl ?_
  first | refine x_aload_n 0 dX9_use_9 rfl rfl ?_ | refine x_aload_nN 0 dX9_use_9 rfl rfl ?_
  refine x_ifnonnullN 15 dX9_use_10 (by decide) ?_
  refine x_iconst (v := -1) dX9_use_13 rfl ?_
  refine x_iret rfl dX9_use_14 ?_
  have e : pCook N x y = cod (-1) := by unfold pCook; (repeat' split) <;> first | rfl | (exfalso; (simp only [Int32.lt_iff_toInt_lt, Int32.le_iff_toInt_le, ← Int32.toInt_inj, Int32.toInt_zero, t_1, t_2, t_3, t_4, t_5, t_6, t_7, t_8, t_9, t_10, t_11, t_12, t_13, t_14, t_16, t_20, t_30, t_32, t_48, t_50, t_57, t_60, t_90, t_99, t_120, t_126, t_m1, t_m2, t_m3, t_m4] at *; omega))
  rw [e]
  exact ⟨rfl, rfl⟩
set_option maxRecDepth 100000 in
set_option maxHeartbeats 4000000 in
theorem ct_X9_use_i {l : Launch} {G : Gl} {h : Hp} {N : Nat → Int32} {ns np no c : Nat} {f d : Nat → Int32} (ok : Ok G) (H : ShW G h 1000 N ns np no) (R : RsW G h c f d) (hm : h (Ad G 1) = some (.inr (9, [.ref (Ad G 1000), .ref (Ad G 2)]))) {i tn rn : Nat} (hi : i < np) (hT : N (63 + 8 * i) = nI tn) (htn : tn ≤ 9) (hRn : N (65 + 8 * i) = nI rn) (hrn : rn ≤ 900) (x : Int32) : CtP l G mX9_use 4 (0) (0) [.ref (Ad G 1), .int (nI i), .int x] h (some (.int (ansC (pCook N (nI i) x)))) (fun h' => SmP G h (pCook N (nI i) x) N ns np no c f d h') := by
  obtain ⟨hsh, has, hap, hao, -, hns, hnp, hno, bs, bp, bo, hS, hP, hO, -⟩ := id H
  obtain ⟨gp, fs, fp, fo, S0, F0⟩ := id H.sh
  have hr2 := R.1
  have tns : (N 2).toInt = ns := by rw [hns]; exact nI_toInt (by omega)
  have tnp : (N 3).toInt = np := by rw [hnp]; exact nI_toInt (by omega)
  have tno : (N 4).toInt = no := by rw [hno]; exact nI_toInt (by omega)
  have hcl := kOf_nI (j := i) (by omega)
  have ti := nI_toInt (n := i) (by omega)
  obtain ⟨hk, hp⟩ := hP i hi
  refine Ct.of (L := [(0, _), (1, _), (2, _)]) (by decide) (ble rfl) rfl ?_
  first | refine x_aload_n 0 dX9_use_0 rfl rfl ?_ | refine x_aload_nN 0 dX9_use_0 rfl rfl ?_
  refine x_get fX9_12 rfl dX9_use_1 (by with_reducible repeat first | assumption | exact hset_s | refine hget_n (by first | assumption | exact Ne.symm (by assumption) | exact nA (by assumption) (by omega) (by omega) (by omega)) ?_) (by rfl) ?_
  refine x_iload_n 1 dX9_use_4 rfl rfl ?_
  refine x_cV1 (As := [.int _]) (ct_X8_potAt_in ok (by omega) H (by assumption)) vX9_77 rfl (x_recv (by with_reducible repeat first | assumption | exact hset_s | refine hget_n (by first | assumption | exact Ne.symm (by assumption) | exact nA (by assumption) (by omega) (by omega) (by omega)) ?_) rfl) rfl ⟨ble rfl, ble rfl⟩ (ble rfl) dX9_use_5 rfl ?_
  first | refine x_astore_n (L' := [(3, _), (0, _), (1, _), (2, _)]) dX9_use_8 rfl (ble rfl) rfl ?_ | refine x_astore_nN (L' := [(3, _), (0, _), (1, _), (2, _)]) dX9_use_8 rfl (ble rfl) rfl ?_
  first | refine x_aload_n 0 dX9_use_9 rfl rfl ?_ | refine x_aload_nN 0 dX9_use_9 rfl rfl ?_
  refine x_ifnonnull 15 dX9_use_10 (by decide) ?_
  refine x_iload_n 3 dX9_use_15 rfl rfl ?_
  refine x_iconst (v := 1) dX9_use_16 rfl ?_
  refine x_icmp_lt 26 dX9_use_17 (by decide) (fun c17 => ?_) (fun c17 => ?_)
  · refine x_bipush (v := -2) dX9_use_26 rfl ?_
    refine x_iret rfl dX9_use_28 ?_
    have e : pCook N (nI i) x = cod (-2) := by unfold pCook; (repeat' split) <;> first | rfl | (exfalso; (simp only [Int32.lt_iff_toInt_lt, Int32.le_iff_toInt_le, ← Int32.toInt_inj, Int32.toInt_zero, t_1, t_2, t_3, t_4, t_5, t_6, t_7, t_8, t_9, t_10, t_11, t_12, t_13, t_14, t_16, t_20, t_30, t_32, t_48, t_50, t_57, t_60, t_90, t_99, t_120, t_126, t_m1, t_m2, t_m3, t_m4] at *; omega))
    rw [e]
    exact ⟨rfl, rfl⟩
  · refine x_iload_n 3 dX9_use_20 rfl rfl ?_
    refine x_bipush (v := 99) dX9_use_21 rfl ?_
    refine x_icmp_le 29 dX9_use_23 (by decide) (fun c23 => ?_) (fun c23 => ?_)
    · first | refine x_aload_n 1 dX9_use_29 rfl rfl ?_ | refine x_aload_nN 1 dX9_use_29 rfl rfl ?_
      first | refine x_aload_n 0 dX9_use_30 rfl rfl ?_ | refine x_aload_nN 0 dX9_use_30 rfl rfl ?_
      refine x_pV1 (mc1 := 0) (ms1 := 0) (As := [.ref _]) (ct_X9_isWorkable ok H R hm hi) vX9_81 rfl (x_recv hm rfl) rfl ⟨ble rfl, ble rfl⟩ (ble rfl) dX9_use_31 rfl ⟨by omega, by omega⟩ (fun hw q31 => ?_)
      refine x_if_ne 40 dX9_use_34 (by decide) (fun c34 => ?_) (fun c34 => ?_)
      · obtain ⟨e1, rfl, e2⟩ := q31.resolve_right (fun z => c34 z.1)
        have x0 : ¬ x < 0 := by (simp only [Int32.lt_iff_toInt_lt, Int32.le_iff_toInt_le, ← Int32.toInt_inj, Int32.toInt_zero, t_1, t_2, t_3, t_4, t_5, t_6, t_7, t_8, t_9, t_10, t_11, t_12, t_13, t_14, t_16, t_20, t_30, t_32, t_48, t_50, t_57, t_60, t_90, t_99, t_120, t_126, t_m1, t_m2, t_m3, t_m4] at *; omega)
        obtain ⟨xn, hxn, rfl⟩ := nI_of x0
        have tx := nI_toInt hxn
        have hx99 : xn ≤ 99 := by (simp only [Int32.lt_iff_toInt_lt, Int32.le_iff_toInt_le, ← Int32.toInt_inj, Int32.toInt_zero, t_1, t_2, t_3, t_4, t_5, t_6, t_7, t_8, t_9, t_10, t_11, t_12, t_13, t_14, t_16, t_20, t_30, t_32, t_48, t_50, t_57, t_60, t_90, t_99, t_120, t_126, t_m1, t_m2, t_m3, t_m4] at *; omega)
        first | refine x_aload_n 0 dX9_use_40 rfl rfl ?_ | refine x_aload_nN 0 dX9_use_40 rfl rfl ?_
        refine x_get fX9_113 rfl dX9_use_41 (by with_reducible repeat first | assumption | exact hset_s | refine hget_n (by first | assumption | exact Ne.symm (by assumption) | exact nA (by assumption) (by omega) (by omega) (by omega)) ?_) (by rfl) ?_
        refine x_if_ne 58 dX9_use_44 (by decide) (fun c44 => ?_) (fun c44 => ?_)
        · have hp3 := hp
          unfold pC at hp3
          rw [hT, hRn] at hp3
          first | refine x_aload_n 0 dX9_use_58 rfl rfl ?_ | refine x_aload_nN 0 dX9_use_58 rfl rfl ?_
          refine x_iload_n 3 dX9_use_59 rfl rfl ?_
          refine x_cV0 (As := [.int _]) (ct_X4_wear hp3 hk htn (by omega) (aA ok (by omega))) vX9_125 rfl (x_recv (by with_reducible repeat first | assumption | exact hset_s | refine hget_n (by first | assumption | exact Ne.symm (by assumption) | exact nA (by assumption) (by omega) (by omega) (by omega)) ?_) rfl) rfl ⟨ble rfl, ble rfl⟩ (ble rfl) dX9_use_60 rfl ?_
          first | refine x_aload_n 0 dX9_use_63 rfl rfl ?_ | refine x_aload_nN 0 dX9_use_63 rfl rfl ?_
          refine x_get fX9_113 rfl dX9_use_64 (by with_reducible repeat first | assumption | exact hset_s | refine hget_n (by first | assumption | exact Ne.symm (by assumption) | exact nA (by assumption) (by omega) (by omega) (by omega)) ?_) (by rfl) ?_
          refine x_iret rfl dX9_use_67 ?_
          have e : pCook N (nI i) (nI xn) = okk (nI (tn - (min tn ((rn + xn) / kMealN (kOf (N (60 + 8 * i))))))) (upd (upd (upd (upd N (63 + 8 * i) (nI (tn - (min tn ((rn + xn) / kMealN (kOf (N (60 + 8 * i)))))))) (65 + 8 * i) (if tn - (min tn ((rn + xn) / kMealN (kOf (N (60 + 8 * i))))) = 0 then 0 else nI (rn + xn - (min tn ((rn + xn) / kMealN (kOf (N (60 + 8 * i))))) * kMealN (kOf (N (60 + 8 * i)))))) (64 + 8 * i) (N (64 + 8 * i) + nI xn)) 6 (N 6 + nI xn)) := by unfold pCook wornK; rw [e2, hcl, hT, hRn, kOf_nI (j := xn) hxn, kOf_nI (j := tn) (by omega), kOf_nI (j := rn) (by omega)]; (repeat' split) <;> first | rfl | (exfalso; (simp only [Int32.lt_iff_toInt_lt, Int32.le_iff_toInt_le, ← Int32.toInt_inj, Int32.toInt_zero, t_1, t_2, t_3, t_4, t_5, t_6, t_7, t_8, t_9, t_10, t_11, t_12, t_13, t_14, t_16, t_20, t_30, t_32, t_48, t_50, t_57, t_60, t_90, t_99, t_120, t_126, t_m1, t_m2, t_m3, t_m4] at *; omega))
          rw [e]
          refine ⟨rfl, ⟨ns, np, no, ShW.mk2 (((S0.pot ok (by omega) (show i < 16 by omega) _)).cg ?_ (fun _ _ => rfl) (fun _ _ => rfl) (fun _ _ => rfl)) F0 ⟨?_, ?_, ?_, by omega, by omega, by omega⟩ ?_ ?_ ?_⟩, Fr.st (Fr.rf) (inB_2 (by omega))⟩
          · unfold eShop; simp (disch := omega) only [upd_ne, upd_eq]; try rfl
          · simp (disch := omega) only [upd_ne, upd_eq]; exact hns
          · simp (disch := omega) only [upd_ne, upd_eq]; exact hnp
          · simp (disch := omega) only [upd_ne, upd_eq]; exact hno
          · intro i1 hi1; exact Or.inl ⟨rfl, fun hi2 => ⟨hi2, fun q2 hq2 => by simp (disch := omega) only [upd_ne, upd_eq]⟩⟩
          · intro i1 hi1; by_cases q : i1 = i
            · refine Or.inr ?_; rw [q]; simp only [va_u_eq]; rw [show kOf ((upd (upd (upd (upd N (63 + 8 * i) (nI (tn - (min tn ((rn + xn) / kMealN (kOf (N (60 + 8 * i)))))))) (65 + 8 * i) (if tn - (min tn ((rn + xn) / kMealN (kOf (N (60 + 8 * i))))) = 0 then 0 else nI (rn + xn - (min tn ((rn + xn) / kMealN (kOf (N (60 + 8 * i))))) * kMealN (kOf (N (60 + 8 * i)))))) (64 + 8 * i) (N (64 + 8 * i) + nI xn)) 6 (N 6 + nI xn)) (60 + 8 * i)) = kOf (N (60 + 8 * i)) by simp (disch := omega) only [upd_ne, upd_eq]]; exact ⟨by unfold pC; simp (disch := omega) only [upd_ne, upd_eq]; (try rfl), hk⟩
            · refine Or.inl ⟨by simp only [va_u_ne q], fun hi2 => ⟨by omega, fun q2 hq2 => by simp (disch := omega) only [upd_ne, upd_eq]⟩⟩
          · intro i1 hi1; exact Or.inl ⟨rfl, fun hi2 => ⟨hi2, fun q2 hq2 => by simp (disch := omega) only [upd_ne, upd_eq]⟩⟩
        · first | refine x_aload_n 1 dX9_use_47 rfl rfl ?_ | refine x_aload_nN 1 dX9_use_47 rfl rfl ?_
          refine x_get fX9_21 rfl dX9_use_48 (by with_reducible repeat first | assumption | exact hset_s | refine hget_n (by first | assumption | exact Ne.symm (by assumption) | exact nA (by assumption) (by omega) (by omega) (by omega)) ?_) (by rfl) ?_
          refine x_bipush (v := 9) dX9_use_51 rfl ?_
          refine x_iload_n 2 dX9_use_53 rfl rfl ?_
          refine x_pV1 (mc1 := 0) (ms1 := 0) (As := [.int _, .int _]) (ct_X5_refuse (by assumption) (by assumption) _ _) vX9_29 rfl (x_recv (by with_reducible repeat first | assumption | exact hset_s | refine hget_n (by first | assumption | exact Ne.symm (by assumption) | exact nA (by assumption) (by omega) (by omega) (by omega)) ?_) rfl) rfl ⟨ble rfl, ble rfl⟩ (ble rfl) dX9_use_54 rfl ⟨by omega, by omega⟩ (fun h54 q54 => ?_)
          obtain ⟨f1, d1, R1, r1, r2, F1⟩ := q54
          have hm1 := F1 _ _ hm (nB ok (by omega) (by omega) (by omega))
          refine x_iret rfl dX9_use_57 ?_
          have e : pCook N (nI i) (nI xn) = rfs 9 (nI i) 0 0 := by unfold pCook; rw [e2, hcl]; (repeat' split) <;> first | rfl | (exfalso; (simp only [Int32.lt_iff_toInt_lt, Int32.le_iff_toInt_le, ← Int32.toInt_inj, Int32.toInt_zero, t_1, t_2, t_3, t_4, t_5, t_6, t_7, t_8, t_9, t_10, t_11, t_12, t_13, t_14, t_16, t_20, t_30, t_32, t_48, t_50, t_57, t_60, t_90, t_99, t_120, t_126, t_m1, t_m2, t_m3, t_m4] at *; omega))
          rw [e]
          exact ⟨rfl, ⟨f1, d1, fun _ => R1, fun q => absurd rfl q, r1, r2⟩, F1⟩
      · refine x_bipush (v := -3) dX9_use_37 rfl ?_
        refine x_iret rfl dX9_use_39 ?_
        rcases q31 with ⟨e1, -⟩ | ⟨e0, w, dd, e2, ⟨f1, d1, R1, r1, r2⟩, F1⟩
        · rw [c34] at e1; exact absurd e1 (by decide)
        have e : pCook N (nI i) x = rfs w dd 0 0 := by unfold pCook; rw [e2]; (repeat' split) <;> first | rfl | (exfalso; (simp only [Int32.lt_iff_toInt_lt, Int32.le_iff_toInt_le, ← Int32.toInt_inj, Int32.toInt_zero, t_1, t_2, t_3, t_4, t_5, t_6, t_7, t_8, t_9, t_10, t_11, t_12, t_13, t_14, t_16, t_20, t_30, t_32, t_48, t_50, t_57, t_60, t_90, t_99, t_120, t_126, t_m1, t_m2, t_m3, t_m4] at *; omega))
        rw [e]
        exact ⟨rfl, ⟨f1, d1, fun _ => R1, fun q => absurd rfl q, r1, r2⟩, F1⟩
    · refine x_bipush (v := -2) dX9_use_26 rfl ?_
      refine x_iret rfl dX9_use_28 ?_
      have e : pCook N (nI i) x = cod (-2) := by unfold pCook; (repeat' split) <;> first | rfl | (exfalso; (simp only [Int32.lt_iff_toInt_lt, Int32.le_iff_toInt_le, ← Int32.toInt_inj, Int32.toInt_zero, t_1, t_2, t_3, t_4, t_5, t_6, t_7, t_8, t_9, t_10, t_11, t_12, t_13, t_14, t_16, t_20, t_30, t_32, t_48, t_50, t_57, t_60, t_90, t_99, t_120, t_126, t_m1, t_m2, t_m3, t_m4] at *; omega))
      rw [e]
      exact ⟨rfl, rfl⟩
