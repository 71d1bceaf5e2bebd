def kOf (x : Int32) : Nat := x.toNatClampNeg
def sm (f : Nat → Int32) : Nat → Int32
  | 0 => 0
  | n + 1 => sm f n + f n
abbrev sC (N : Nat → Int32) (i : Nat) : va_E := eSheet (N (12 + 4 * i)) (N (15 + 4 * i)) (N (13 + 4 * i)) (N (14 + 4 * i))
abbrev pC (G : Gl) (N : Nat → Int32) (i : Nat) : va_E := ePot G (nI i) (kOf (N (60 + 8 * i))) (N (67 + 8 * i)) (N (61 + 8 * i)) (N (62 + 8 * i)) (N (63 + 8 * i)) (N (65 + 8 * i)) (N (64 + 8 * i)) (N (66 + 8 * i))
abbrev oC (G : Gl) (N : Nat → Int32) (i : Nat) : va_E := eOrd G (kOf (N (188 + 5 * i))) (N (189 + 5 * i)) (N (190 + 5 * i)) (N (191 + 5 * i)) (N (192 + 5 * i))
abbrev eShop (G : Gl) (B : Nat) (N : Nat → Int32) : va_E := .inr (8, [.ref (Ad G (B + 1)), .ref (Ad G (B + 2)), .ref (Ad G (B + 3)), .ref (Ad G (B + 4)), .int (N 2), .int (N 3), .int (N 4), .int (N 0), .int (N 1), .int (N 11 - 20), .int (N 8), .int (N 7)])
/-- a shop's cells, at the places from B on, hold the numbers N: what lies behind the counts is free -/
def ShW (G : Gl) (h : Hp) (B : Nat) (N : Nat → Int32) (ns np no : Nat) : Prop :=
  h (Ad G B) = some (eShop G B N) ∧ h (Ad G (B + 1)) = some (eR G 3 12 (fun i => some (Ad G (B + 10 + i)))) ∧ h (Ad G (B + 2)) = some (eR G 4 16 (fun i => some (Ad G (B + 30 + i)))) ∧ h (Ad G (B + 3)) = some (eR G 5 8 (fun i => some (Ad G (B + 50 + i)))) ∧ (∃ gp, h (Ad G (B + 4)) = some (eI G 8 gp)) ∧
  N 2 = nI ns ∧ N 3 = nI np ∧ N 4 = nI no ∧ ns ≤ 12 ∧ np ≤ 16 ∧ no ≤ 8 ∧
  (∀ i, i < ns → h (Ad G (B + 10 + i)) = some (sC N i)) ∧ (∀ i, i < np → kOf (N (60 + 8 * i)) < 3 ∧ h (Ad G (B + 30 + i)) = some (pC G N i)) ∧ (∀ i, i < no → kOf (N (188 + 5 * i)) < 3 ∧ h (Ad G (B + 50 + i)) = some (oC G N i)) ∧
  (∀ i, i < 12 → ∃ g fa ar ps, h (Ad G (B + 10 + i)) = some (eSheet g fa ar ps)) ∧ (∀ i, i < 16 → ∃ k sh g b t r m q, h (Ad G (B + 30 + i)) = some (ePot G (nI i) k sh g b t r m q)) ∧ ∀ i, i < 8 → ∃ k t p po pd, h (Ad G (B + 50 + i)) = some (eOrd G k t p po pd)
theorem x_eqL {l : Launch} {G : Gl} {M : MM} {rm : Room} {K : List Frame → Array Value → State → State → Prop} {mc ms pc : Nat} {L L' : List (Nat × Value)} {st : List Value} {h : Hp} (e : L = L') (k : XX l G M rm K mc ms pc L' st h) : XX l G M rm K mc ms pc L st h := by subst e; exact k
theorem x_eqS {l : Launch} {G : Gl} {M : MM} {rm : Room} {K : List Frame → Array Value → State → State → Prop} {mc ms pc : Nat} {L : List (Nat × Value)} {st st' : List Value} {h : Hp} (e : st = st') (k : XX l G M rm K mc ms pc L st' h) : XX l G M rm K mc ms pc L st h := by subst e; exact k
theorem x_eqH {l : Launch} {G : Gl} {M : MM} {rm : Room} {K : List Frame → Array Value → State → State → Prop} {mc ms pc : Nat} {L : List (Nat × Value)} {st : List Value} {h h' : Hp} (e : h = h') (k : XX l G M rm K mc ms pc L st h') : XX l G M rm K mc ms pc L st h := by subst e; exact k
/-- pot i of N is good for order j of N -/
def goodN (N : Nat → Int32) (i j : Nat) : Int32 := goodK (kOf (N (60 + 8 * i))) (kOf (N (188 + 5 * j))) (N (61 + 8 * i)) (N (62 + 8 * i)) (N (63 + 8 * i)) (N (64 + 8 * i)) (N (66 + 8 * i)) (N (189 + 5 * j))
/-- the least i from a on, below n, with p; else -4 -/
def lowF (p : Nat → Bool) (n : Nat) : Nat → Int32
  | 0 => -4
  | k + 1 => if p (n - (k + 1)) = true then nI (n - (k + 1)) else lowF p n k
def orF (f : Nat → Int32) : Nat → Int32
  | 0 => 0
  | n + 1 => orF f n ||| f n
theorem lowF_at {p : Nat → Bool} {n i : Nat} (hi : i < n) : lowF p n (n - i) = if p i = true then nI i else lowF p n (n - (i + 1)) := by
  rw [show n - i = (n - (i + 1)) + 1 by omega]
  show (if p (n - (n - (i + 1) + 1)) = true then nI (n - (n - (i + 1) + 1)) else lowF p n (n - (i + 1))) = _
  rw [show n - (n - (i + 1) + 1) = i by omega]
set_option maxRecDepth 100000 in
set_option maxHeartbeats 4000000 in
def sm2 (f : Nat → Int32) (z : Int32) : Nat → Int32
  | 0 => z
  | n + 1 => sm2 f z n + f n
theorem ct_X8_sheetAt_in {l : Launch} {G : Gl} {h : Hp} {N : Nat → Int32} {B ns np no : Nat} (ok : Ok G) (hB : B + 60 < 3000) (H : ShW G h B N ns np no) {i : Nat} (hi : i < ns) : CtR l G mX8_sheetAt 1 [.ref (Ad G B), .int (nI i)] h (some (.ref (Ad G (B + 10 + i)))) (h) := by
  obtain ⟨hsh, has, hap, hao, ⟨gp, hag⟩, hns, hnp, hno, bs, bp, bo, hS, hP, hO, hS2, hP2, hO2⟩ := H
  refine Ct.of (L := [(0, _), (1, _)]) (by decide) (ble rfl) rfl ?_
  refine x_iload_n 1 dX8_sheetAt_0 rfl rfl ?_
  refine x_if_lt 21 dX8_sheetAt_1 (by decide) (fun z => by first | exact absurd z (nI_pos (by omega)) | exact absurd (nI_pos (by omega)) z) (fun _ => ?_)
  refine x_iload_n 1 dX8_sheetAt_4 rfl rfl ?_
  first | refine x_aload_n 0 dX8_sheetAt_5 rfl rfl ?_ | refine x_aload_nN 0 dX8_sheetAt_5 rfl rfl ?_
  refine x_get fX8_33 rfl dX8_sheetAt_6 (by with_reducible repeat first | assumption | exact hset_s | refine hget_n (by first | assumption | exact Ne.symm (by assumption) | exact nA (by assumption) (by omega) (by omega) (by omega)) ?_) (by rfl) ?_
  refine x_icmp_ge 21 dX8_sheetAt_9 (by decide) (fun z => by first | exact absurd z (by rw [hns]; exact nI_ge hi (by omega)) | exact absurd (by rw [hns]; exact nI_ge hi (by omega)) z) (fun _ => ?_)
  first | refine x_aload_n 0 dX8_sheetAt_12 rfl rfl ?_ | refine x_aload_nN 0 dX8_sheetAt_12 rfl rfl ?_
  refine x_get fX8_11 rfl dX8_sheetAt_13 (by with_reducible repeat first | assumption | exact hset_s | refine hget_n (by first | assumption | exact Ne.symm (by assumption) | exact nA (by assumption) (by omega) (by omega) (by omega)) ?_) (by rfl) ?_
  refine x_iload_n 1 dX8_sheetAt_16 rfl rfl ?_
  refine x_aald 3 rfl dX8_sheetAt_17 (by with_reducible repeat first | assumption | exact hset_s | refine hget_n (by first | assumption | exact Ne.symm (by assumption) | exact nA (by assumption) (by omega) (by omega) (by omega)) ?_) (vp_in_nI (by omega) (by omega)) (v := .ref (Ad G (B + 10 + i))) (by rw [nI_clamp (by omega)]; rfl) ?_
  refine x_goto 22 dX8_sheetAt_18 (by decide) ?_
  refine x_aret rfl (by first | exact Or.inl ⟨_, rfl⟩ | exact Or.inr ⟨_, rfl⟩) (by first | exact Or.inl rfl | exact Or.inr ⟨_, rfl⟩ | assumption) dX8_sheetAt_22 ?_
  exact ⟨rfl, rfl⟩
set_option maxRecDepth 100000 in
set_option maxHeartbeats 4000000 in
theorem ct_X8_sheetAt_out {l : Launch} {G : Gl} {h : Hp} {N : Nat → Int32} {B ns np no : Nat} (ok : Ok G) (hB : B + 60 < 3000) (H : ShW G h B N ns np no) {x : Int32} (hx : ¬ (0 ≤ x ∧ x < N 2)) : CtR l G mX8_sheetAt 1 [.ref (Ad G B), .int x] h (some .null) (h) := by
  obtain ⟨hsh, has, hap, hao, ⟨gp, hag⟩, hns, hnp, hno, bs, bp, bo, hS, hP, hO, hS2, hP2, hO2⟩ := H
  refine Ct.of (L := [(0, _), (1, _)]) (by decide) (ble rfl) rfl ?_
  refine x_iload_n 1 dX8_sheetAt_0 rfl rfl ?_
  refine x_if_lt 21 dX8_sheetAt_1 (by decide) (fun c1 => ?_) (fun c1 => ?_)
  · refine x_null dX8_sheetAt_21 ?_
    refine x_aret rfl (by first | exact Or.inl ⟨_, rfl⟩ | exact Or.inr ⟨_, rfl⟩) (by first | exact Or.inl rfl | exact Or.inr ⟨_, rfl⟩ | assumption) dX8_sheetAt_22 ?_
    exact ⟨rfl, rfl⟩
  · refine x_iload_n 1 dX8_sheetAt_4 rfl rfl ?_
    first | refine x_aload_n 0 dX8_sheetAt_5 rfl rfl ?_ | refine x_aload_nN 0 dX8_sheetAt_5 rfl rfl ?_
    refine x_get fX8_33 rfl dX8_sheetAt_6 (by with_reducible repeat first | assumption | exact hset_s | refine hget_n (by first | assumption | exact Ne.symm (by assumption) | exact nA (by assumption) (by omega) (by omega) (by omega)) ?_) (by rfl) ?_
    refine x_icmp_ge 21 dX8_sheetAt_9 (by decide) (fun _ => ?_) (fun z => by first | exact absurd (Int32.not_lt.mp (fun q => hx ⟨Int32.not_lt.mp c1, q⟩)) z | exact absurd z (Int32.not_lt.mp (fun q => hx ⟨Int32.not_lt.mp c1, q⟩)))
    refine x_null dX8_sheetAt_21 ?_
    refine x_aret rfl (by first | exact Or.inl ⟨_, rfl⟩ | exact Or.inr ⟨_, rfl⟩) (by first | exact Or.inl rfl | exact Or.inr ⟨_, rfl⟩ | assumption) dX8_sheetAt_22 ?_
    exact ⟨rfl, rfl⟩
set_option maxRecDepth 100000 in
set_option maxHeartbeats 4000000 in
theorem ct_X8_potAt_in {l : Launch} {G : Gl} {h : Hp} {N : Nat → Int32} {B ns np no : Nat} (ok : Ok G) (hB : B + 60 < 3000) (H : ShW G h B N ns np no) {i : Nat} (hi : i < np) : CtR l G mX8_potAt 1 [.ref (Ad G B), .int (nI i)] h (some (.ref (Ad G (B + 30 + i)))) (h) := by
  obtain ⟨hsh, has, hap, hao, ⟨gp, hag⟩, hns, hnp, hno, bs, bp, bo, hS, hP, hO, hS2, hP2, hO2⟩ := H
  refine Ct.of (L := [(0, _), (1, _)]) (by decide) (ble rfl) rfl ?_
  refine x_iload_n 1 dX8_potAt_0 rfl rfl ?_
  refine x_if_lt 21 dX8_potAt_1 (by decide) (fun z => by first | exact absurd z (nI_pos (by omega)) | exact absurd (nI_pos (by omega)) z) (fun _ => ?_)
  refine x_iload_n 1 dX8_potAt_4 rfl rfl ?_
  first | refine x_aload_n 0 dX8_potAt_5 rfl rfl ?_ | refine x_aload_nN 0 dX8_potAt_5 rfl rfl ?_
  refine x_get fX8_37 rfl dX8_potAt_6 (by with_reducible repeat first | assumption | exact hset_s | refine hget_n (by first | assumption | exact Ne.symm (by assumption) | exact nA (by assumption) (by omega) (by omega) (by omega)) ?_) (by rfl) ?_
  refine x_icmp_ge 21 dX8_potAt_9 (by decide) (fun z => by first | exact absurd z (by rw [hnp]; exact nI_ge hi (by omega)) | exact absurd (by rw [hnp]; exact nI_ge hi (by omega)) z) (fun _ => ?_)
  first | refine x_aload_n 0 dX8_potAt_12 rfl rfl ?_ | refine x_aload_nN 0 dX8_potAt_12 rfl rfl ?_
  refine x_get fX8_19 rfl dX8_potAt_13 (by with_reducible repeat first | assumption | exact hset_s | refine hget_n (by first | assumption | exact Ne.symm (by assumption) | exact nA (by assumption) (by omega) (by omega) (by omega)) ?_) (by rfl) ?_
  refine x_iload_n 1 dX8_potAt_16 rfl rfl ?_
  refine x_aald 4 rfl dX8_potAt_17 (by with_reducible repeat first | assumption | exact hset_s | refine hget_n (by first | assumption | exact Ne.symm (by assumption) | exact nA (by assumption) (by omega) (by omega) (by omega)) ?_) (vp_in_nI (by omega) (by omega)) (v := .ref (Ad G (B + 30 + i))) (by rw [nI_clamp (by omega)]; rfl) ?_
  refine x_goto 22 dX8_potAt_18 (by decide) ?_
  refine x_aret rfl (by first | exact Or.inl ⟨_, rfl⟩ | exact Or.inr ⟨_, rfl⟩) (by first | exact Or.inl rfl | exact Or.inr ⟨_, rfl⟩ | assumption) dX8_potAt_22 ?_
  exact ⟨rfl, rfl⟩
set_option maxRecDepth 100000 in
set_option maxHeartbeats 4000000 in
theorem ct_X8_potAt_out {l : Launch} {G : Gl} {h : Hp} {N : Nat → Int32} {B ns np no : Nat} (ok : Ok G) (hB : B + 60 < 3000) (H : ShW G h B N ns np no) {x : Int32} (hx : ¬ (0 ≤ x ∧ x < N 3)) : CtR l G mX8_potAt 1 [.ref (Ad G B), .int x] h (some .null) (h) := by
  obtain ⟨hsh, has, hap, hao, ⟨gp, hag⟩, hns, hnp, hno, bs, bp, bo, hS, hP, hO, hS2, hP2, hO2⟩ := H
  refine Ct.of (L := [(0, _), (1, _)]) (by decide) (ble rfl) rfl ?_
  refine x_iload_n 1 dX8_potAt_0 rfl rfl ?_
  refine x_if_lt 21 dX8_potAt_1 (by decide) (fun c1 => ?_) (fun c1 => ?_)
  · refine x_null dX8_potAt_21 ?_
    refine x_aret rfl (by first | exact Or.inl ⟨_, rfl⟩ | exact Or.inr ⟨_, rfl⟩) (by first | exact Or.inl rfl | exact Or.inr ⟨_, rfl⟩ | assumption) dX8_potAt_22 ?_
    exact ⟨rfl, rfl⟩
  · refine x_iload_n 1 dX8_potAt_4 rfl rfl ?_
    first | refine x_aload_n 0 dX8_potAt_5 rfl rfl ?_ | refine x_aload_nN 0 dX8_potAt_5 rfl rfl ?_
    refine x_get fX8_37 rfl dX8_potAt_6 (by with_reducible repeat first | assumption | exact hset_s | refine hget_n (by first | assumption | exact Ne.symm (by assumption) | exact nA (by assumption) (by omega) (by omega) (by omega)) ?_) (by rfl) ?_
    refine x_icmp_ge 21 dX8_potAt_9 (by decide) (fun _ => ?_) (fun z => by first | exact absurd (Int32.not_lt.mp (fun q => hx ⟨Int32.not_lt.mp c1, q⟩)) z | exact absurd z (Int32.not_lt.mp (fun q => hx ⟨Int32.not_lt.mp c1, q⟩)))
    refine x_null dX8_potAt_21 ?_
    refine x_aret rfl (by first | exact Or.inl ⟨_, rfl⟩ | exact Or.inr ⟨_, rfl⟩) (by first | exact Or.inl rfl | exact Or.inr ⟨_, rfl⟩ | assumption) dX8_potAt_22 ?_
    exact ⟨rfl, rfl⟩
set_option maxRecDepth 100000 in
set_option maxHeartbeats 4000000 in
theorem ct_X8_orderAt_in {l : Launch} {G : Gl} {h : Hp} {N : Nat → Int32} {B ns np no : Nat} (ok : Ok G) (hB : B + 60 < 3000) (H : ShW G h B N ns np no) {i : Nat} (hi : i < no) : CtR l G mX8_orderAt 1 [.ref (Ad G B), .int (nI i)] h (some (.ref (Ad G (B + 50 + i)))) (h) := by
  obtain ⟨hsh, has, hap, hao, ⟨gp, hag⟩, hns, hnp, hno, bs, bp, bo, hS, hP, hO, hS2, hP2, hO2⟩ := H
  refine Ct.of (L := [(0, _), (1, _)]) (by decide) (ble rfl) rfl ?_
  refine x_iload_n 1 dX8_orderAt_0 rfl rfl ?_
  refine x_if_lt 21 dX8_orderAt_1 (by decide) (fun z => by first | exact absurd z (nI_pos (by omega)) | exact absurd (nI_pos (by omega)) z) (fun _ => ?_)
  refine x_iload_n 1 dX8_orderAt_4 rfl rfl ?_
  first | refine x_aload_n 0 dX8_orderAt_5 rfl rfl ?_ | refine x_aload_nN 0 dX8_orderAt_5 rfl rfl ?_
  refine x_get fX8_40 rfl dX8_orderAt_6 (by with_reducible repeat first | assumption | exact hset_s | refine hget_n (by first | assumption | exact Ne.symm (by assumption) | exact nA (by assumption) (by omega) (by omega) (by omega)) ?_) (by rfl) ?_
  refine x_icmp_ge 21 dX8_orderAt_9 (by decide) (fun z => by first | exact absurd z (by rw [hno]; exact nI_ge hi (by omega)) | exact absurd (by rw [hno]; exact nI_ge hi (by omega)) z) (fun _ => ?_)
  first | refine x_aload_n 0 dX8_orderAt_12 rfl rfl ?_ | refine x_aload_nN 0 dX8_orderAt_12 rfl rfl ?_
  refine x_get fX8_25 rfl dX8_orderAt_13 (by with_reducible repeat first | assumption | exact hset_s | refine hget_n (by first | assumption | exact Ne.symm (by assumption) | exact nA (by assumption) (by omega) (by omega) (by omega)) ?_) (by rfl) ?_
  refine x_iload_n 1 dX8_orderAt_16 rfl rfl ?_
  refine x_aald 5 rfl dX8_orderAt_17 (by with_reducible repeat first | assumption | exact hset_s | refine hget_n (by first | assumption | exact Ne.symm (by assumption) | exact nA (by assumption) (by omega) (by omega) (by omega)) ?_) (vp_in_nI (by omega) (by omega)) (v := .ref (Ad G (B + 50 + i))) (by rw [nI_clamp (by omega)]; rfl) ?_
  refine x_goto 22 dX8_orderAt_18 (by decide) ?_
  refine x_aret rfl (by first | exact Or.inl ⟨_, rfl⟩ | exact Or.inr ⟨_, rfl⟩) (by first | exact Or.inl rfl | exact Or.inr ⟨_, rfl⟩ | assumption) dX8_orderAt_22 ?_
  exact ⟨rfl, rfl⟩
set_option maxRecDepth 100000 in
set_option maxHeartbeats 4000000 in
theorem ct_X8_orderAt_out {l : Launch} {G : Gl} {h : Hp} {N : Nat → Int32} {B ns np no : Nat} (ok : Ok G) (hB : B + 60 < 3000) (H : ShW G h B N ns np no) {x : Int32} (hx : ¬ (0 ≤ x ∧ x < N 4)) : CtR l G mX8_orderAt 1 [.ref (Ad G B), .int x] h (some .null) (h) := by
  obtain ⟨hsh, has, hap, hao, ⟨gp, hag⟩, hns, hnp, hno, bs, bp, bo, hS, hP, hO, hS2, hP2, hO2⟩ := H
  refine Ct.of (L := [(0, _), (1, _)]) (by decide) (ble rfl) rfl ?_
  refine x_iload_n 1 dX8_orderAt_0 rfl rfl ?_
  refine x_if_lt 21 dX8_orderAt_1 (by decide) (fun c1 => ?_) (fun c1 => ?_)
  · refine x_null dX8_orderAt_21 ?_
    refine x_aret rfl (by first | exact Or.inl ⟨_, rfl⟩ | exact Or.inr ⟨_, rfl⟩) (by first | exact Or.inl rfl | exact Or.inr ⟨_, rfl⟩ | assumption) dX8_orderAt_22 ?_
    exact ⟨rfl, rfl⟩
  · refine x_iload_n 1 dX8_orderAt_4 rfl rfl ?_
    first | refine x_aload_n 0 dX8_orderAt_5 rfl rfl ?_ | refine x_aload_nN 0 dX8_orderAt_5 rfl rfl ?_
    refine x_get fX8_40 rfl dX8_orderAt_6 (by with_reducible repeat first | assumption | exact hset_s | refine hget_n (by first | assumption | exact Ne.symm (by assumption) | exact nA (by assumption) (by omega) (by omega) (by omega)) ?_) (by rfl) ?_
    refine x_icmp_ge 21 dX8_orderAt_9 (by decide) (fun _ => ?_) (fun z => by first | exact absurd (Int32.not_lt.mp (fun q => hx ⟨Int32.not_lt.mp c1, q⟩)) z | exact absurd z (Int32.not_lt.mp (fun q => hx ⟨Int32.not_lt.mp c1, q⟩)))
    refine x_null dX8_orderAt_21 ?_
    refine x_aret rfl (by first | exact Or.inl ⟨_, rfl⟩ | exact Or.inr ⟨_, rfl⟩) (by first | exact Or.inl rfl | exact Or.inr ⟨_, rfl⟩ | assumption) dX8_orderAt_22 ?_
    exact ⟨rfl, rfl⟩
set_option maxRecDepth 100000 in
set_option maxHeartbeats 4000000 in
theorem ct_X8_soldPots {l : Launch} {G : Gl} {h : Hp} {N : Nat → Int32} {B ns np no : Nat} (ok : Ok G) (hB : B + 60 < 3000) (H : ShW G h B N ns np no) : CtR l G mX8_soldPots 2 [.ref (Ad G B)] h (some (.int (sm (fun i => soldK (N (191 + 5 * i))) no))) (h) := by
  obtain ⟨hsh, has, hap, hao, ⟨gp, hag⟩, hns, hnp, hno, bs, bp, bo, hS, hP, hO, hS2, hP2, hO2⟩ := H
  refine Ct.of (L := [(0, _)]) (by decide) (ble rfl) rfl ?_
  refine x_iconst (v := 0) dX8_soldPots_0 rfl ?_
  refine x_istore_n (L' := [(1, _), (0, _)]) dX8_soldPots_1 rfl (ble rfl) rfl ?_
  refine x_iconst (v := 0) dX8_soldPots_2 rfl ?_
  refine x_istore_n (L' := [(2, _), (1, _), (0, _)]) dX8_soldPots_3 rfl (ble rfl) rfl ?_
  refine x_locs (L' := [(2, _), (1, _), (0, _)]) [0, 1, 2] rfl ?_
  refine dn (P := fun i => XX l G mX8_soldPots (Rm 2 0 0) (KQ G (Rm 2 0 0) (fun w h' => w = some (.int (sm (fun i => soldK (N (191 + 5 * i))) no)) ∧ h' = h)) 0 0 4 [(2, .int (nI i)), (1, .int (sm (fun i => soldK (N (191 + 5 * i))) i)), (0, .ref (Ad G B))] [] h) (n := no) ?_ (fun i hi ihi => ?_)
  · refine x_iload_n 0 dX8_soldPots_4 rfl rfl ?_
    first | refine x_aload_n 2 dX8_soldPots_5 rfl rfl ?_ | refine x_aload_nN 2 dX8_soldPots_5 rfl rfl ?_
    refine x_get fX8_40 rfl dX8_soldPots_6 (by with_reducible repeat first | assumption | exact hset_s | refine hget_n (by first | assumption | exact Ne.symm (by assumption) | exact nA (by assumption) (by omega) (by omega) (by omega)) ?_) (by rfl) ?_
    refine x_icmp_ge 38 dX8_soldPots_9 (by decide) (fun _ => ?_) (fun z => by first | exact absurd (by rw [hno]; exact Int32.le_refl _) z | exact absurd z (by rw [hno]; exact Int32.le_refl _))
    refine x_iload_n 1 dX8_soldPots_38 rfl rfl ?_
    refine x_iret rfl dX8_soldPots_39 ?_
    exact ⟨rfl, rfl⟩
  · obtain ⟨hk2, hq⟩ := hO i hi
    refine x_iload_n 0 dX8_soldPots_4 rfl rfl ?_
    first | refine x_aload_n 2 dX8_soldPots_5 rfl rfl ?_ | refine x_aload_nN 2 dX8_soldPots_5 rfl rfl ?_
    refine x_get fX8_40 rfl dX8_soldPots_6 (by with_reducible repeat first | assumption | exact hset_s | refine hget_n (by first | assumption | exact Ne.symm (by assumption) | exact nA (by assumption) (by omega) (by omega) (by omega)) ?_) (by rfl) ?_
    refine x_icmp_ge 38 dX8_soldPots_9 (by decide) (fun z => by first | exact absurd z (by rw [hno]; exact nI_ge hi (by omega)) | exact absurd (by rw [hno]; exact nI_ge hi (by omega)) z) (fun _ => ?_)
    refine x_iload_n 1 dX8_soldPots_12 rfl rfl ?_
    first | refine x_aload_n 2 dX8_soldPots_13 rfl rfl ?_ | refine x_aload_nN 2 dX8_soldPots_13 rfl rfl ?_
    refine x_get fX8_25 rfl dX8_soldPots_14 (by with_reducible repeat first | assumption | exact hset_s | refine hget_n (by first | assumption | exact Ne.symm (by assumption) | exact nA (by assumption) (by omega) (by omega) (by omega)) ?_) (by rfl) ?_
    refine x_iload_n 0 dX8_soldPots_17 rfl rfl ?_
    refine x_aald 5 rfl dX8_soldPots_18 (by with_reducible repeat first | assumption | exact hset_s | refine hget_n (by first | assumption | exact Ne.symm (by assumption) | exact nA (by assumption) (by omega) (by omega) (by omega)) ?_) (vp_in_nI (by omega) (by omega)) (v := .ref (Ad G (B + 50 + i))) (by rw [nI_clamp (by omega)]; rfl) ?_
    refine x_cV1 (As := []) (ct_X3_isFilled (by with_reducible repeat first | assumption | exact hset_s | refine hget_n (by first | assumption | exact Ne.symm (by assumption) | exact nA (by assumption) (by omega) (by omega) (by omega)) ?_)) vX8_73 rfl (x_recv (by with_reducible repeat first | assumption | exact hset_s | refine hget_n (by first | assumption | exact Ne.symm (by assumption) | exact nA (by assumption) (by omega) (by omega) (by omega)) ?_) rfl) rfl ⟨ble rfl, ble rfl⟩ (ble rfl) dX8_soldPots_19 rfl ?_
    refine x_if_eq 29 dX8_soldPots_22 (by decide) (fun c22 => ?_) (fun c22 => ?_)
    · refine x_iconst (v := 0) dX8_soldPots_29 rfl ?_
      refine x_iadd dX8_soldPots_30 ?_
      refine x_istore_n (L' := [(1, _), (2, _), (0, _)]) dX8_soldPots_31 rfl (ble rfl) rfl ?_
      refine x_iinc (L' := [(2, _), (1, _), (0, _)]) (j := 1) (nI (_ + 1)) dX8_soldPots_32 rfl (nI_1 _) (ble rfl) rfl ?_
      refine x_goto 4 dX8_soldPots_35 (by decide) ?_
      refine x_locs (L' := [(2, _), (1, _), (0, _)]) [0, 1, 2] rfl ?_
      refine x_eqL ?_ ihi
      simp only [sm, soldK] at *; split at c22 <;> simp_all
    · refine x_iconst (v := 1) dX8_soldPots_25 rfl ?_
      refine x_goto 30 dX8_soldPots_26 (by decide) ?_
      refine x_iadd dX8_soldPots_30 ?_
      refine x_istore_n (L' := [(1, _), (2, _), (0, _)]) dX8_soldPots_31 rfl (ble rfl) rfl ?_
      refine x_iinc (L' := [(2, _), (1, _), (0, _)]) (j := 1) (nI (_ + 1)) dX8_soldPots_32 rfl (nI_1 _) (ble rfl) rfl ?_
      refine x_goto 4 dX8_soldPots_35 (by decide) ?_
      refine x_locs (L' := [(2, _), (1, _), (0, _)]) [0, 1, 2] rfl ?_
      refine x_eqL ?_ ihi
      simp only [sm, soldK] at *; split at c22 <;> simp_all
set_option maxRecDepth 100000 in
set_option maxHeartbeats 4000000 in
theorem ct_X8_paidSoFar {l : Launch} {G : Gl} {h : Hp} {N : Nat → Int32} {B ns np no : Nat} (ok : Ok G) (hB : B + 60 < 3000) (H : ShW G h B N ns np no) : CtR l G mX8_paidSoFar 1 [.ref (Ad G B)] h (some (.int (sm (fun i => N (192 + 5 * i)) no))) (h) := by
  obtain ⟨hsh, has, hap, hao, ⟨gp, hag⟩, hns, hnp, hno, bs, bp, bo, hS, hP, hO, hS2, hP2, hO2⟩ := H
  refine Ct.of (L := [(0, _)]) (by decide) (ble rfl) rfl ?_
  refine x_iconst (v := 0) dX8_paidSoFar_0 rfl ?_
  refine x_istore_n (L' := [(1, _), (0, _)]) dX8_paidSoFar_1 rfl (ble rfl) rfl ?_
  refine x_iconst (v := 0) dX8_paidSoFar_2 rfl ?_
  refine x_istore_n (L' := [(2, _), (1, _), (0, _)]) dX8_paidSoFar_3 rfl (ble rfl) rfl ?_
  refine x_locs (L' := [(2, _), (1, _), (0, _)]) [0, 1, 2] rfl ?_
  refine dn (P := fun i => XX l G mX8_paidSoFar (Rm 1 0 0) (KQ G (Rm 1 0 0) (fun w h' => w = some (.int (sm (fun i => N (192 + 5 * i)) no)) ∧ h' = h)) 0 0 4 [(2, .int (nI i)), (1, .int (sm (fun i => N (192 + 5 * i)) i)), (0, .ref (Ad G B))] [] h) (n := no) ?_ (fun i hi ihi => ?_)
  · refine x_iload_n 0 dX8_paidSoFar_4 rfl rfl ?_
    first | refine x_aload_n 2 dX8_paidSoFar_5 rfl rfl ?_ | refine x_aload_nN 2 dX8_paidSoFar_5 rfl rfl ?_
    refine x_get fX8_40 rfl dX8_paidSoFar_6 (by with_reducible repeat first | assumption | exact hset_s | refine hget_n (by first | assumption | exact Ne.symm (by assumption) | exact nA (by assumption) (by omega) (by omega) (by omega)) ?_) (by rfl) ?_
    refine x_icmp_ge 30 dX8_paidSoFar_9 (by decide) (fun _ => ?_) (fun z => by first | exact absurd (by rw [hno]; exact Int32.le_refl _) z | exact absurd z (by rw [hno]; exact Int32.le_refl _))
    refine x_iload_n 1 dX8_paidSoFar_30 rfl rfl ?_
    refine x_iret rfl dX8_paidSoFar_31 ?_
    exact ⟨rfl, rfl⟩
  · obtain ⟨hk2, hq⟩ := hO i hi
    refine x_iload_n 0 dX8_paidSoFar_4 rfl rfl ?_
    first | refine x_aload_n 2 dX8_paidSoFar_5 rfl rfl ?_ | refine x_aload_nN 2 dX8_paidSoFar_5 rfl rfl ?_
    refine x_get fX8_40 rfl dX8_paidSoFar_6 (by with_reducible repeat first | assumption | exact hset_s | refine hget_n (by first | assumption | exact Ne.symm (by assumption) | exact nA (by assumption) (by omega) (by omega) (by omega)) ?_) (by rfl) ?_
    refine x_icmp_ge 30 dX8_paidSoFar_9 (by decide) (fun z => by first | exact absurd z (by rw [hno]; exact nI_ge hi (by omega)) | exact absurd (by rw [hno]; exact nI_ge hi (by omega)) z) (fun _ => ?_)
    refine x_iload_n 1 dX8_paidSoFar_12 rfl rfl ?_
    first | refine x_aload_n 2 dX8_paidSoFar_13 rfl rfl ?_ | refine x_aload_nN 2 dX8_paidSoFar_13 rfl rfl ?_
    refine x_get fX8_25 rfl dX8_paidSoFar_14 (by with_reducible repeat first | assumption | exact hset_s | refine hget_n (by first | assumption | exact Ne.symm (by assumption) | exact nA (by assumption) (by omega) (by omega) (by omega)) ?_) (by rfl) ?_
    refine x_iload_n 0 dX8_paidSoFar_17 rfl rfl ?_
    refine x_aald 5 rfl dX8_paidSoFar_18 (by with_reducible repeat first | assumption | exact hset_s | refine hget_n (by first | assumption | exact Ne.symm (by assumption) | exact nA (by assumption) (by omega) (by omega) (by omega)) ?_) (vp_in_nI (by omega) (by omega)) (v := .ref (Ad G (B + 50 + i))) (by rw [nI_clamp (by omega)]; rfl) ?_
    refine x_get fX8_77 rfl dX8_paidSoFar_19 (by with_reducible repeat first | assumption | exact hset_s | refine hget_n (by first | assumption | exact Ne.symm (by assumption) | exact nA (by assumption) (by omega) (by omega) (by omega)) ?_) (by rfl) ?_
    refine x_iadd dX8_paidSoFar_22 ?_
    refine x_istore_n (L' := [(1, _), (2, _), (0, _)]) dX8_paidSoFar_23 rfl (ble rfl) rfl ?_
    refine x_iinc (L' := [(2, _), (1, _), (0, _)]) (j := 1) (nI (_ + 1)) dX8_paidSoFar_24 rfl (nI_1 _) (ble rfl) rfl ?_
    refine x_goto 4 dX8_paidSoFar_27 (by decide) ?_
    refine x_locs (L' := [(2, _), (1, _), (0, _)]) [0, 1, 2] rfl ?_
    exact ihi
set_option maxRecDepth 100000 in
set_option maxHeartbeats 4000000 in
theorem ct_X8_sheetsCost {l : Launch} {G : Gl} {h : Hp} {N : Nat → Int32} {B ns np no : Nat} (ok : Ok G) (hB : B + 60 < 3000) (H : ShW G h B N ns np no) : CtR l G mX8_sheetsCost 1 [.ref (Ad G B)] h (some (.int (sm (fun i => N (12 + 4 * i)) ns))) (h) := by
  obtain ⟨hsh, has, hap, hao, ⟨gp, hag⟩, hns, hnp, hno, bs, bp, bo, hS, hP, hO, hS2, hP2, hO2⟩ := H
  refine Ct.of (L := [(0, _)]) (by decide) (ble rfl) rfl ?_
  refine x_iconst (v := 0) dX8_sheetsCost_0 rfl ?_
  refine x_istore_n (L' := [(1, _), (0, _)]) dX8_sheetsCost_1 rfl (ble rfl) rfl ?_
  refine x_iconst (v := 0) dX8_sheetsCost_2 rfl ?_
  refine x_istore_n (L' := [(2, _), (1, _), (0, _)]) dX8_sheetsCost_3 rfl (ble rfl) rfl ?_
  refine x_locs (L' := [(2, _), (1, _), (0, _)]) [0, 1, 2] rfl ?_
  refine dn (P := fun i => XX l G mX8_sheetsCost (Rm 1 0 0) (KQ G (Rm 1 0 0) (fun w h' => w = some (.int (sm (fun i => N (12 + 4 * i)) ns)) ∧ h' = h)) 0 0 4 [(2, .int (nI i)), (1, .int (sm (fun i => N (12 + 4 * i)) i)), (0, .ref (Ad G B))] [] h) (n := ns) ?_ (fun i hi ihi => ?_)
  · refine x_iload_n 0 dX8_sheetsCost_4 rfl rfl ?_
    first | refine x_aload_n 2 dX8_sheetsCost_5 rfl rfl ?_ | refine x_aload_nN 2 dX8_sheetsCost_5 rfl rfl ?_
    refine x_get fX8_33 rfl dX8_sheetsCost_6 (by with_reducible repeat first | assumption | exact hset_s | refine hget_n (by first | assumption | exact Ne.symm (by assumption) | exact nA (by assumption) (by omega) (by omega) (by omega)) ?_) (by rfl) ?_
    refine x_icmp_ge 30 dX8_sheetsCost_9 (by decide) (fun _ => ?_) (fun z => by first | exact absurd (by rw [hns]; exact Int32.le_refl _) z | exact absurd z (by rw [hns]; exact Int32.le_refl _))
    refine x_iload_n 1 dX8_sheetsCost_30 rfl rfl ?_
    refine x_iret rfl dX8_sheetsCost_31 ?_
    exact ⟨rfl, rfl⟩
  · have hs := hS i hi
    refine x_iload_n 0 dX8_sheetsCost_4 rfl rfl ?_
    first | refine x_aload_n 2 dX8_sheetsCost_5 rfl rfl ?_ | refine x_aload_nN 2 dX8_sheetsCost_5 rfl rfl ?_
    refine x_get fX8_33 rfl dX8_sheetsCost_6 (by with_reducible repeat first | assumption | exact hset_s | refine hget_n (by first | assumption | exact Ne.symm (by assumption) | exact nA (by assumption) (by omega) (by omega) (by omega)) ?_) (by rfl) ?_
    refine x_icmp_ge 30 dX8_sheetsCost_9 (by decide) (fun z => by first | exact absurd z (by rw [hns]; exact nI_ge hi (by omega)) | exact absurd (by rw [hns]; exact nI_ge hi (by omega)) z) (fun _ => ?_)
    refine x_iload_n 1 dX8_sheetsCost_12 rfl rfl ?_
    first | refine x_aload_n 2 dX8_sheetsCost_13 rfl rfl ?_ | refine x_aload_nN 2 dX8_sheetsCost_13 rfl rfl ?_
    refine x_get fX8_11 rfl dX8_sheetsCost_14 (by with_reducible repeat first | assumption | exact hset_s | refine hget_n (by first | assumption | exact Ne.symm (by assumption) | exact nA (by assumption) (by omega) (by omega) (by omega)) ?_) (by rfl) ?_
    refine x_iload_n 0 dX8_sheetsCost_17 rfl rfl ?_
    refine x_aald 3 rfl dX8_sheetsCost_18 (by with_reducible repeat first | assumption | exact hset_s | refine hget_n (by first | assumption | exact Ne.symm (by assumption) | exact nA (by assumption) (by omega) (by omega) (by omega)) ?_) (vp_in_nI (by omega) (by omega)) (v := .ref (Ad G (B + 10 + i))) (by rw [nI_clamp (by omega)]; rfl) ?_
    refine x_get fX8_80 rfl dX8_sheetsCost_19 (by with_reducible repeat first | assumption | exact hset_s | refine hget_n (by first | assumption | exact Ne.symm (by assumption) | exact nA (by assumption) (by omega) (by omega) (by omega)) ?_) (by rfl) ?_
    refine x_iadd dX8_sheetsCost_22 ?_
    refine x_istore_n (L' := [(1, _), (2, _), (0, _)]) dX8_sheetsCost_23 rfl (ble rfl) rfl ?_
    refine x_iinc (L' := [(2, _), (1, _), (0, _)]) (j := 1) (nI (_ + 1)) dX8_sheetsCost_24 rfl (nI_1 _) (ble rfl) rfl ?_
    refine x_goto 4 dX8_sheetsCost_27 (by decide) ?_
    refine x_locs (L' := [(2, _), (1, _), (0, _)]) [0, 1, 2] rfl ?_
    exact ihi
set_option maxRecDepth 100000 in
set_option maxHeartbeats 4000000 in
theorem ct_X8_sumOfPots {l : Launch} {G : Gl} {h : Hp} {N : Nat → Int32} {B ns np no : Nat} (ok : Ok G) (hB : B + 60 < 3000) (H : ShW G h B N ns np no) (x : Int32) : CtR l G mX8_sumOfPots 4 [.ref (Ad G B), .int x] h (some (.int (sm (fun i => tlP (kOf (N (60 + 8 * i))) (N (67 + 8 * i)) (N (61 + 8 * i)) (N (62 + 8 * i)) (N (63 + 8 * i)) (N (64 + 8 * i)) (N (66 + 8 * i)) x) np))) (h) := by
  obtain ⟨hsh, has, hap, hao, ⟨gp, hag⟩, hns, hnp, hno, bs, bp, bo, hS, hP, hO, hS2, hP2, hO2⟩ := H
  refine Ct.of (L := [(0, _), (1, _)]) (by decide) (ble rfl) rfl ?_
  refine x_iconst (v := 0) dX8_sumOfPots_0 rfl ?_
  refine x_istore_n (L' := [(2, _), (0, _), (1, _)]) dX8_sumOfPots_1 rfl (ble rfl) rfl ?_
  refine x_iconst (v := 0) dX8_sumOfPots_2 rfl ?_
  refine x_istore_n (L' := [(3, _), (2, _), (0, _), (1, _)]) dX8_sumOfPots_3 rfl (ble rfl) rfl ?_
  refine x_locs (L' := [(3, _), (2, _), (0, _), (1, _)]) [0, 1, 2, 3] rfl ?_
  refine dn (P := fun i => XX l G mX8_sumOfPots (Rm 4 0 0) (KQ G (Rm 4 0 0) (fun w h' => w = some (.int (sm (fun i => tlP (kOf (N (60 + 8 * i))) (N (67 + 8 * i)) (N (61 + 8 * i)) (N (62 + 8 * i)) (N (63 + 8 * i)) (N (64 + 8 * i)) (N (66 + 8 * i)) x) np)) ∧ h' = h)) 0 0 4 [(3, .int (nI i)), (2, .int (sm (fun i => tlP (kOf (N (60 + 8 * i))) (N (67 + 8 * i)) (N (61 + 8 * i)) (N (62 + 8 * i)) (N (63 + 8 * i)) (N (64 + 8 * i)) (N (66 + 8 * i)) x) i)), (0, .ref (Ad G B)), (1, .int x)] [] h) (n := np) ?_ (fun i hi ihi => ?_)
  · refine x_iload_n 0 dX8_sumOfPots_4 rfl rfl ?_
    first | refine x_aload_n 2 dX8_sumOfPots_5 rfl rfl ?_ | refine x_aload_nN 2 dX8_sumOfPots_5 rfl rfl ?_
    refine x_get fX8_37 rfl dX8_sumOfPots_6 (by with_reducible repeat first | assumption | exact hset_s | refine hget_n (by first | assumption | exact Ne.symm (by assumption) | exact nA (by assumption) (by omega) (by omega) (by omega)) ?_) (by rfl) ?_
    refine x_icmp_ge 31 dX8_sumOfPots_9 (by decide) (fun _ => ?_) (fun z => by first | exact absurd (by rw [hnp]; exact Int32.le_refl _) z | exact absurd z (by rw [hnp]; exact Int32.le_refl _))
    refine x_iload_n 1 dX8_sumOfPots_31 rfl rfl ?_
    refine x_iret rfl dX8_sumOfPots_32 ?_
    exact ⟨rfl, rfl⟩
  · obtain ⟨hk, hp⟩ := hP i hi
    refine x_iload_n 0 dX8_sumOfPots_4 rfl rfl ?_
    first | refine x_aload_n 2 dX8_sumOfPots_5 rfl rfl ?_ | refine x_aload_nN 2 dX8_sumOfPots_5 rfl rfl ?_
    refine x_get fX8_37 rfl dX8_sumOfPots_6 (by with_reducible repeat first | assumption | exact hset_s | refine hget_n (by first | assumption | exact Ne.symm (by assumption) | exact nA (by assumption) (by omega) (by omega) (by omega)) ?_) (by rfl) ?_
    refine x_icmp_ge 31 dX8_sumOfPots_9 (by decide) (fun z => by first | exact absurd z (by rw [hnp]; exact nI_ge hi (by omega)) | exact absurd (by rw [hnp]; exact nI_ge hi (by omega)) z) (fun _ => ?_)
    refine x_iload_n 1 dX8_sumOfPots_12 rfl rfl ?_
    first | refine x_aload_n 2 dX8_sumOfPots_13 rfl rfl ?_ | refine x_aload_nN 2 dX8_sumOfPots_13 rfl rfl ?_
    refine x_get fX8_19 rfl dX8_sumOfPots_14 (by with_reducible repeat first | assumption | exact hset_s | refine hget_n (by first | assumption | exact Ne.symm (by assumption) | exact nA (by assumption) (by omega) (by omega) (by omega)) ?_) (by rfl) ?_
    refine x_iload_n 0 dX8_sumOfPots_17 rfl rfl ?_
    refine x_aald 4 rfl dX8_sumOfPots_18 (by with_reducible repeat first | assumption | exact hset_s | refine hget_n (by first | assumption | exact Ne.symm (by assumption) | exact nA (by assumption) (by omega) (by omega) (by omega)) ?_) (vp_in_nI (by omega) (by omega)) (v := .ref (Ad G (B + 30 + i))) (by rw [nI_clamp (by omega)]; rfl) ?_
    refine x_iload_n 3 dX8_sumOfPots_19 rfl rfl ?_
    refine x_cV1 (As := [.int _]) (ct_X4_tell (by with_reducible repeat first | assumption | exact hset_s | refine hget_n (by first | assumption | exact Ne.symm (by assumption) | exact nA (by assumption) (by omega) (by omega) (by omega)) ?_) (by assumption) _) vX8_83 rfl (x_recv (by with_reducible repeat first | assumption | exact hset_s | refine hget_n (by first | assumption | exact Ne.symm (by assumption) | exact nA (by assumption) (by omega) (by omega) (by omega)) ?_) rfl) rfl ⟨ble rfl, ble rfl⟩ (ble rfl) dX8_sumOfPots_20 rfl ?_
    refine x_iadd dX8_sumOfPots_23 ?_
    refine x_istore_n (L' := [(2, _), (3, _), (0, _), (1, _)]) dX8_sumOfPots_24 rfl (ble rfl) rfl ?_
    refine x_iinc (L' := [(3, _), (2, _), (0, _), (1, _)]) (j := 1) (nI (_ + 1)) dX8_sumOfPots_25 rfl (nI_1 _) (ble rfl) rfl ?_
    refine x_goto 4 dX8_sumOfPots_28 (by decide) ?_
    refine x_locs (L' := [(3, _), (2, _), (0, _), (1, _)]) [0, 1, 2, 3] rfl ?_
    exact ihi
set_option maxRecDepth 100000 in
set_option maxHeartbeats 4000000 in
theorem ct_X8_copperByPart {l : Launch} {G : Gl} {h : Hp} {N : Nat → Int32} {B ns np no : Nat} (ok : Ok G) (hB : B + 60 < 3000) (H : ShW G h B N ns np no) : CtR l G mX8_copperByPart 1 [.ref (Ad G B)] h (some (.int (sm2 (fun i => kArea (kOf (N (60 + 8 * i))) * N (61 + 8 * i)) (sm (fun i => N (13 + 4 * i) * N (12 + 4 * i)) ns) np))) (h) := by
  obtain ⟨hsh, has, hap, hao, ⟨gp, hag⟩, hns, hnp, hno, bs, bp, bo, hS, hP, hO, hS2, hP2, hO2⟩ := H
  refine Ct.of (L := [(0, _)]) (by decide) (ble rfl) rfl ?_
  refine x_iconst (v := 0) dX8_copperByPart_0 rfl ?_
  refine x_istore_n (L' := [(1, _), (0, _)]) dX8_copperByPart_1 rfl (ble rfl) rfl ?_
  refine x_iconst (v := 0) dX8_copperByPart_2 rfl ?_
  refine x_istore_n (L' := [(2, _), (1, _), (0, _)]) dX8_copperByPart_3 rfl (ble rfl) rfl ?_
  refine x_locs (L' := [(2, _), (1, _), (0, _)]) [0, 1, 2] rfl ?_
  refine dn (P := fun i => XX l G mX8_copperByPart (Rm 1 0 0) (KQ G (Rm 1 0 0) (fun w h' => w = some (.int (sm2 (fun i => kArea (kOf (N (60 + 8 * i))) * N (61 + 8 * i)) (sm (fun i => N (13 + 4 * i) * N (12 + 4 * i)) ns) np)) ∧ h' = h)) 0 0 4 [(2, .int (nI i)), (1, .int (sm (fun i => N (13 + 4 * i) * N (12 + 4 * i)) i)), (0, .ref (Ad G B))] [] h) (n := ns) ?_ (fun i hi ihi => ?_)
  · refine x_iload_n 0 dX8_copperByPart_4 rfl rfl ?_
    first | refine x_aload_n 2 dX8_copperByPart_5 rfl rfl ?_ | refine x_aload_nN 2 dX8_copperByPart_5 rfl rfl ?_
    refine x_get fX8_33 rfl dX8_copperByPart_6 (by with_reducible repeat first | assumption | exact hset_s | refine hget_n (by first | assumption | exact Ne.symm (by assumption) | exact nA (by assumption) (by omega) (by omega) (by omega)) ?_) (by rfl) ?_
    refine x_icmp_ge 40 dX8_copperByPart_9 (by decide) (fun _ => ?_) (fun z => by first | exact absurd (by rw [hns]; exact Int32.le_refl _) z | exact absurd z (by rw [hns]; exact Int32.le_refl _))
    refine x_iconst (v := 0) dX8_copperByPart_40 rfl ?_
    refine x_istore_n (L' := [(2, _), (1, _), (0, _)]) dX8_copperByPart_41 rfl (ble rfl) rfl ?_
    refine x_locs (L' := [(2, _), (1, _), (0, _)]) [0, 1, 2] rfl ?_
    refine dn (P := fun i => XX l G mX8_copperByPart (Rm 1 0 0) (KQ G (Rm 1 0 0) (fun w h' => w = some (.int (sm2 (fun i => kArea (kOf (N (60 + 8 * i))) * N (61 + 8 * i)) (sm (fun i => N (13 + 4 * i) * N (12 + 4 * i)) ns) np)) ∧ h' = h)) 0 0 42 [(2, .int (nI i)), (1, .int (sm2 (fun i => kArea (kOf (N (60 + 8 * i))) * N (61 + 8 * i)) (sm (fun i => N (13 + 4 * i) * N (12 + 4 * i)) ns) i)), (0, .ref (Ad G B))] [] h) (n := np) ?_ (fun i hi ihi => ?_)
    · refine x_iload_n 0 dX8_copperByPart_42 rfl rfl ?_
      first | refine x_aload_n 2 dX8_copperByPart_43 rfl rfl ?_ | refine x_aload_nN 2 dX8_copperByPart_43 rfl rfl ?_
      refine x_get fX8_37 rfl dX8_copperByPart_44 (by with_reducible repeat first | assumption | exact hset_s | refine hget_n (by first | assumption | exact Ne.symm (by assumption) | exact nA (by assumption) (by omega) (by omega) (by omega)) ?_) (by rfl) ?_
      refine x_icmp_ge 81 dX8_copperByPart_47 (by decide) (fun _ => ?_) (fun z => by first | exact absurd (by rw [hnp]; exact Int32.le_refl _) z | exact absurd z (by rw [hnp]; exact Int32.le_refl _))
      refine x_iload_n 1 dX8_copperByPart_81 rfl rfl ?_
      refine x_iret rfl dX8_copperByPart_82 ?_
      exact ⟨rfl, rfl⟩
    · obtain ⟨hk, hp⟩ := hP i hi
      refine x_iload_n 0 dX8_copperByPart_42 rfl rfl ?_
      first | refine x_aload_n 2 dX8_copperByPart_43 rfl rfl ?_ | refine x_aload_nN 2 dX8_copperByPart_43 rfl rfl ?_
      refine x_get fX8_37 rfl dX8_copperByPart_44 (by with_reducible repeat first | assumption | exact hset_s | refine hget_n (by first | assumption | exact Ne.symm (by assumption) | exact nA (by assumption) (by omega) (by omega) (by omega)) ?_) (by rfl) ?_
      refine x_icmp_ge 81 dX8_copperByPart_47 (by decide) (fun z => by first | exact absurd z (by rw [hnp]; exact nI_ge hi (by omega)) | exact absurd (by rw [hnp]; exact nI_ge hi (by omega)) z) (fun _ => ?_)
      refine x_iload_n 1 dX8_copperByPart_50 rfl rfl ?_
      first | refine x_aload_n 2 dX8_copperByPart_51 rfl rfl ?_ | refine x_aload_nN 2 dX8_copperByPart_51 rfl rfl ?_
      refine x_get fX8_19 rfl dX8_copperByPart_52 (by with_reducible repeat first | assumption | exact hset_s | refine hget_n (by first | assumption | exact Ne.symm (by assumption) | exact nA (by assumption) (by omega) (by omega) (by omega)) ?_) (by rfl) ?_
      refine x_iload_n 0 dX8_copperByPart_55 rfl rfl ?_
      refine x_aald 4 rfl dX8_copperByPart_56 (by with_reducible repeat first | assumption | exact hset_s | refine hget_n (by first | assumption | exact Ne.symm (by assumption) | exact nA (by assumption) (by omega) (by omega) (by omega)) ?_) (vp_in_nI (by omega) (by omega)) (v := .ref (Ad G (B + 30 + i))) (by rw [nI_clamp (by omega)]; rfl) ?_
      refine x_get fX8_90 rfl dX8_copperByPart_57 (by with_reducible repeat first | assumption | exact hset_s | refine hget_n (by first | assumption | exact Ne.symm (by assumption) | exact nA (by assumption) (by omega) (by omega) (by omega)) ?_) (by rfl) ?_
      refine x_getO (zK_area (by assumption)) rfl oX8_94 dX8_copperByPart_60 ?_
      first | refine x_aload_n 2 dX8_copperByPart_63 rfl rfl ?_ | refine x_aload_nN 2 dX8_copperByPart_63 rfl rfl ?_
      refine x_get fX8_19 rfl dX8_copperByPart_64 (by with_reducible repeat first | assumption | exact hset_s | refine hget_n (by first | assumption | exact Ne.symm (by assumption) | exact nA (by assumption) (by omega) (by omega) (by omega)) ?_) (by rfl) ?_
      refine x_iload_n 0 dX8_copperByPart_67 rfl rfl ?_
      refine x_aald 4 rfl dX8_copperByPart_68 (by with_reducible repeat first | assumption | exact hset_s | refine hget_n (by first | assumption | exact Ne.symm (by assumption) | exact nA (by assumption) (by omega) (by omega) (by omega)) ?_) (vp_in_nI (by omega) (by omega)) (v := .ref (Ad G (B + 30 + i))) (by rw [nI_clamp (by omega)]; rfl) ?_
      refine x_get fX8_97 rfl dX8_copperByPart_69 (by with_reducible repeat first | assumption | exact hset_s | refine hget_n (by first | assumption | exact Ne.symm (by assumption) | exact nA (by assumption) (by omega) (by omega) (by omega)) ?_) (by rfl) ?_
      refine x_imul dX8_copperByPart_72 ?_
      refine x_iadd dX8_copperByPart_73 ?_
      refine x_istore_n (L' := [(1, _), (2, _), (0, _)]) dX8_copperByPart_74 rfl (ble rfl) rfl ?_
      refine x_iinc (L' := [(2, _), (1, _), (0, _)]) (j := 1) (nI (_ + 1)) dX8_copperByPart_75 rfl (nI_1 _) (ble rfl) rfl ?_
      refine x_goto 42 dX8_copperByPart_78 (by decide) ?_
      refine x_locs (L' := [(2, _), (1, _), (0, _)]) [0, 1, 2] rfl ?_
      exact ihi
  · have hs := hS i hi
    refine x_iload_n 0 dX8_copperByPart_4 rfl rfl ?_
    first | refine x_aload_n 2 dX8_copperByPart_5 rfl rfl ?_ | refine x_aload_nN 2 dX8_copperByPart_5 rfl rfl ?_
    refine x_get fX8_33 rfl dX8_copperByPart_6 (by with_reducible repeat first | assumption | exact hset_s | refine hget_n (by first | assumption | exact Ne.symm (by assumption) | exact nA (by assumption) (by omega) (by omega) (by omega)) ?_) (by rfl) ?_
    refine x_icmp_ge 40 dX8_copperByPart_9 (by decide) (fun z => by first | exact absurd z (by rw [hns]; exact nI_ge hi (by omega)) | exact absurd (by rw [hns]; exact nI_ge hi (by omega)) z) (fun _ => ?_)
    refine x_iload_n 1 dX8_copperByPart_12 rfl rfl ?_
    first | refine x_aload_n 2 dX8_copperByPart_13 rfl rfl ?_ | refine x_aload_nN 2 dX8_copperByPart_13 rfl rfl ?_
    refine x_get fX8_11 rfl dX8_copperByPart_14 (by with_reducible repeat first | assumption | exact hset_s | refine hget_n (by first | assumption | exact Ne.symm (by assumption) | exact nA (by assumption) (by omega) (by omega) (by omega)) ?_) (by rfl) ?_
    refine x_iload_n 0 dX8_copperByPart_17 rfl rfl ?_
    refine x_aald 3 rfl dX8_copperByPart_18 (by with_reducible repeat first | assumption | exact hset_s | refine hget_n (by first | assumption | exact Ne.symm (by assumption) | exact nA (by assumption) (by omega) (by omega) (by omega)) ?_) (vp_in_nI (by omega) (by omega)) (v := .ref (Ad G (B + 10 + i))) (by rw [nI_clamp (by omega)]; rfl) ?_
    refine x_get fX8_87 rfl dX8_copperByPart_19 (by with_reducible repeat first | assumption | exact hset_s | refine hget_n (by first | assumption | exact Ne.symm (by assumption) | exact nA (by assumption) (by omega) (by omega) (by omega)) ?_) (by rfl) ?_
    first | refine x_aload_n 2 dX8_copperByPart_22 rfl rfl ?_ | refine x_aload_nN 2 dX8_copperByPart_22 rfl rfl ?_
    refine x_get fX8_11 rfl dX8_copperByPart_23 (by with_reducible repeat first | assumption | exact hset_s | refine hget_n (by first | assumption | exact Ne.symm (by assumption) | exact nA (by assumption) (by omega) (by omega) (by omega)) ?_) (by rfl) ?_
    refine x_iload_n 0 dX8_copperByPart_26 rfl rfl ?_
    refine x_aald 3 rfl dX8_copperByPart_27 (by with_reducible repeat first | assumption | exact hset_s | refine hget_n (by first | assumption | exact Ne.symm (by assumption) | exact nA (by assumption) (by omega) (by omega) (by omega)) ?_) (vp_in_nI (by omega) (by omega)) (v := .ref (Ad G (B + 10 + i))) (by rw [nI_clamp (by omega)]; rfl) ?_
    refine x_get fX8_80 rfl dX8_copperByPart_28 (by with_reducible repeat first | assumption | exact hset_s | refine hget_n (by first | assumption | exact Ne.symm (by assumption) | exact nA (by assumption) (by omega) (by omega) (by omega)) ?_) (by rfl) ?_
    refine x_imul dX8_copperByPart_31 ?_
    refine x_iadd dX8_copperByPart_32 ?_
    refine x_istore_n (L' := [(1, _), (2, _), (0, _)]) dX8_copperByPart_33 rfl (ble rfl) rfl ?_
    refine x_iinc (L' := [(2, _), (1, _), (0, _)]) (j := 1) (nI (_ + 1)) dX8_copperByPart_34 rfl (nI_1 _) (ble rfl) rfl ?_
    refine x_goto 4 dX8_copperByPart_37 (by decide) ?_
    refine x_locs (L' := [(2, _), (1, _), (0, _)]) [0, 1, 2] rfl ?_
    exact ihi
set_option maxRecDepth 100000 in
set_option maxHeartbeats 4000000 in
theorem ct_X8_copperBySheet {l : Launch} {G : Gl} {h : Hp} {N : Nat → Int32} {B ns np no : Nat} (ok : Ok G) (hB : B + 60 < 3000) (H : ShW G h B N ns np no) : CtR l G mX8_copperBySheet 1 [.ref (Ad G B)] h (some (.int (sm (fun i => N (15 + 4 * i) * N (12 + 4 * i)) ns))) (h) := by
  obtain ⟨hsh, has, hap, hao, ⟨gp, hag⟩, hns, hnp, hno, bs, bp, bo, hS, hP, hO, hS2, hP2, hO2⟩ := H
  refine Ct.of (L := [(0, _)]) (by decide) (ble rfl) rfl ?_
  refine x_iconst (v := 0) dX8_copperBySheet_0 rfl ?_
  refine x_istore_n (L' := [(1, _), (0, _)]) dX8_copperBySheet_1 rfl (ble rfl) rfl ?_
  refine x_iconst (v := 0) dX8_copperBySheet_2 rfl ?_
  refine x_istore_n (L' := [(2, _), (1, _), (0, _)]) dX8_copperBySheet_3 rfl (ble rfl) rfl ?_
  refine x_locs (L' := [(2, _), (1, _), (0, _)]) [0, 1, 2] rfl ?_
  refine dn (P := fun i => XX l G mX8_copperBySheet (Rm 1 0 0) (KQ G (Rm 1 0 0) (fun w h' => w = some (.int (sm (fun i => N (15 + 4 * i) * N (12 + 4 * i)) ns)) ∧ h' = h)) 0 0 4 [(2, .int (nI i)), (1, .int (sm (fun i => N (15 + 4 * i) * N (12 + 4 * i)) i)), (0, .ref (Ad G B))] [] h) (n := ns) ?_ (fun i hi ihi => ?_)
  · refine x_iload_n 0 dX8_copperBySheet_4 rfl rfl ?_
    first | refine x_aload_n 2 dX8_copperBySheet_5 rfl rfl ?_ | refine x_aload_nN 2 dX8_copperBySheet_5 rfl rfl ?_
    refine x_get fX8_33 rfl dX8_copperBySheet_6 (by with_reducible repeat first | assumption | exact hset_s | refine hget_n (by first | assumption | exact Ne.symm (by assumption) | exact nA (by assumption) (by omega) (by omega) (by omega)) ?_) (by rfl) ?_
    refine x_icmp_ge 40 dX8_copperBySheet_9 (by decide) (fun _ => ?_) (fun z => by first | exact absurd (by rw [hns]; exact Int32.le_refl _) z | exact absurd z (by rw [hns]; exact Int32.le_refl _))
    refine x_iload_n 1 dX8_copperBySheet_40 rfl rfl ?_
    refine x_iret rfl dX8_copperBySheet_41 ?_
    exact ⟨rfl, rfl⟩
  · have hs := hS i hi
    refine x_iload_n 0 dX8_copperBySheet_4 rfl rfl ?_
    first | refine x_aload_n 2 dX8_copperBySheet_5 rfl rfl ?_ | refine x_aload_nN 2 dX8_copperBySheet_5 rfl rfl ?_
    refine x_get fX8_33 rfl dX8_copperBySheet_6 (by with_reducible repeat first | assumption | exact hset_s | refine hget_n (by first | assumption | exact Ne.symm (by assumption) | exact nA (by assumption) (by omega) (by omega) (by omega)) ?_) (by rfl) ?_
    refine x_icmp_ge 40 dX8_copperBySheet_9 (by decide) (fun z => by first | exact absurd z (by rw [hns]; exact nI_ge hi (by omega)) | exact absurd (by rw [hns]; exact nI_ge hi (by omega)) z) (fun _ => ?_)
    refine x_iload_n 1 dX8_copperBySheet_12 rfl rfl ?_
    first | refine x_aload_n 2 dX8_copperBySheet_13 rfl rfl ?_ | refine x_aload_nN 2 dX8_copperBySheet_13 rfl rfl ?_
    refine x_get fX8_11 rfl dX8_copperBySheet_14 (by with_reducible repeat first | assumption | exact hset_s | refine hget_n (by first | assumption | exact Ne.symm (by assumption) | exact nA (by assumption) (by omega) (by omega) (by omega)) ?_) (by rfl) ?_
    refine x_iload_n 0 dX8_copperBySheet_17 rfl rfl ?_
    refine x_aald 3 rfl dX8_copperBySheet_18 (by with_reducible repeat first | assumption | exact hset_s | refine hget_n (by first | assumption | exact Ne.symm (by assumption) | exact nA (by assumption) (by omega) (by omega) (by omega)) ?_) (vp_in_nI (by omega) (by omega)) (v := .ref (Ad G (B + 10 + i))) (by rw [nI_clamp (by omega)]; rfl) ?_
    refine x_get fX8_98 rfl dX8_copperBySheet_19 (by with_reducible repeat first | assumption | exact hset_s | refine hget_n (by first | assumption | exact Ne.symm (by assumption) | exact nA (by assumption) (by omega) (by omega) (by omega)) ?_) (by rfl) ?_
    first | refine x_aload_n 2 dX8_copperBySheet_22 rfl rfl ?_ | refine x_aload_nN 2 dX8_copperBySheet_22 rfl rfl ?_
    refine x_get fX8_11 rfl dX8_copperBySheet_23 (by with_reducible repeat first | assumption | exact hset_s | refine hget_n (by first | assumption | exact Ne.symm (by assumption) | exact nA (by assumption) (by omega) (by omega) (by omega)) ?_) (by rfl) ?_
    refine x_iload_n 0 dX8_copperBySheet_26 rfl rfl ?_
    refine x_aald 3 rfl dX8_copperBySheet_27 (by with_reducible repeat first | assumption | exact hset_s | refine hget_n (by first | assumption | exact Ne.symm (by assumption) | exact nA (by assumption) (by omega) (by omega) (by omega)) ?_) (vp_in_nI (by omega) (by omega)) (v := .ref (Ad G (B + 10 + i))) (by rw [nI_clamp (by omega)]; rfl) ?_
    refine x_get fX8_80 rfl dX8_copperBySheet_28 (by with_reducible repeat first | assumption | exact hset_s | refine hget_n (by first | assumption | exact Ne.symm (by assumption) | exact nA (by assumption) (by omega) (by omega) (by omega)) ?_) (by rfl) ?_
    refine x_imul dX8_copperBySheet_31 ?_
    refine x_iadd dX8_copperBySheet_32 ?_
    refine x_istore_n (L' := [(1, _), (2, _), (0, _)]) dX8_copperBySheet_33 rfl (ble rfl) rfl ?_
    refine x_iinc (L' := [(2, _), (1, _), (0, _)]) (j := 1) (nI (_ + 1)) dX8_copperBySheet_34 rfl (nI_1 _) (ble rfl) rfl ?_
    refine x_goto 4 dX8_copperBySheet_37 (by decide) ?_
    refine x_locs (L' := [(2, _), (1, _), (0, _)]) [0, 1, 2] rfl ?_
    exact ihi
