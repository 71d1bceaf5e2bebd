def kMealN (k : Nat) : Nat := ([4, 2, 6] : List Nat).getD k 0
def kHalfN (k : Nat) : Nat := ([2, 4, 1] : List Nat).getD k 0
theorem kMeal_n : ∀ k, k < 3 → kMeal k = nI (kMealN k) ∧ 0 < kMealN k ∧ kMealN k ≤ 6 := by decide +kernel
theorem kHalf_n : ∀ k, k < 3 → kHalf k = nI (kHalfN k) ∧ kHalfN k ≤ 4 := by decide +kernel
theorem nI_sub' {a b : Nat} (h : b ≤ a) : nI a - nI b = nI (a - b) := by
  have e : nI (a - b) + nI b = nI a := by
    have := nI_add (a - b) b
    rw [Nat.sub_add_cancel h] at this
    exact this
  rw [← e, Int32.add_sub_cancel]
def rsF (k : Nat) (v : Int32) : Nat → Int32
  | 0 => v
  | i + 1 => rsF k v i + kThk k
def hvF (k : Nat) : Nat → Nat
  | 0 => 0
  | i + 1 => (hvF k i + kHalfN k) % 2
def dcF (k : Nat) (r : Int32) : Nat → Int32
  | 0 => r
  | i + 1 => dcF k r i - nI ((hvF k i + kHalfN k) / 2)
def dcS (k : Nat) : Nat → Int32
  | 0 => 0
  | i + 1 => dcS k i + nI ((hvF k i + kHalfN k) / 2)
theorem rsF_e (k : Nat) (v : Int32) : ∀ i, rsF k v i = v + rsF k 0 i
  | 0 => by show v = v + 0; rw [Int32.add_zero]
  | i + 1 => by show rsF k v i + kThk k = v + (rsF k 0 i + kThk k); rw [rsF_e k v i, Int32.add_assoc]
theorem dcF_e (k : Nat) (r : Int32) : ∀ i, dcF k r i = r - dcS k i
  | 0 => by show r = r - 0; rw [Int32.sub_zero]
  | i + 1 => by show dcF k r i - _ = r - (dcS k i + _); rw [dcF_e k r i, Int32.sub_eq_add_neg, Int32.sub_eq_add_neg, Int32.sub_eq_add_neg, Int32.neg_add, Int32.add_assoc, Int32.sub_eq_add_neg]
theorem rs_t : ∀ k, k < 3 → ∀ i, i < 10 → rsF k 0 i = kThk k * nI i ∧ dcS k i = kHalf k * nI i / 2 ∧ hvF k i < 2 := by decide +kernel
def ChW (G : Gl) (h : Hp) (sz : Nat) (f : Nat → Int32) : Prop := h (Ad G 7) = some (.inr (1, [.ref (Ad G 8), .int (nI sz)])) ∧ h (Ad G 8) = some (eI G 16 f)
def sndN (N : Nat → Int32) (i : Nat) : Int32 := if soldK (N (66 + 8 * i)) = 0 then ringK (kOf (N (60 + 8 * i))) (N (61 + 8 * i)) (N (62 + 8 * i)) (N (63 + 8 * i)) else -1
def lsF (N f : Nat → Int32) (i : Nat) : Nat → Int32 := fun j => if j < i then sndN N j else f j
theorem lsF_s (N f : Nat → Int32) (i : Nat) : upd (lsF N f i) i (sndN N i) = lsF N f (i + 1) := by
  funext j
  unfold upd lsF
  by_cases h : j = i
  · subst h; simp
  · simp only [h, if_false]; by_cases h2 : j < i
    · rw [if_pos h2, if_pos (by omega)]
    · rw [if_neg h2, if_neg (by omega)]
def alK (x y : Int32) : Int32 := if (if 0 ≤ x - y then x - y else 0 - (x - y)) ≤ 2 then 1 else 0
def prI (f : Nat → Int32) (i j : Nat) : Int32 := if 0 ≤ f i ∧ 0 ≤ f j ∧ ¬ alK (f i) (f j) = 0 then 1 else 0
def ahI (f : Nat → Int32) (i j : Nat) : Int32 := if f i < f j ∨ (f j = f i ∧ nI j < nI i) then 1 else 0
/-- the least i from a on, below n, with p; else d -/
def lowD (d : Int32) (p : Nat → Bool) (n : Nat) : Nat → Int32
  | 0 => d
  | k + 1 => if p (n - (k + 1)) = true then nI (n - (k + 1)) else lowD d p n k
theorem lowD_at {d : Int32} {p : Nat → Bool} {n i : Nat} (hi : i < n) : lowD d p n (n - i) = if p i = true then nI i else lowD d p n (n - (i + 1)) := by
  rw [show n - i = (n - (i + 1)) + 1 by omega]
  show (if p (n - (n - (i + 1) + 1)) = true then nI (n - (n - (i + 1) + 1)) else lowD d p n (n - (i + 1))) = _
  rw [show n - (n - (i + 1) + 1) = i by omega]
def laS (f : Nat → Int32) (x : Int32) : Nat → Int32
  | 0 => -1
  | i + 1 => if x < f i ∧ (laS f x i = -1 ∨ f i < laS f x i) then f i else laS f x i
def ab (x : Int32) : Int32 := if 0 ≤ x then x else 0 - x
theorem nI_z {m : Nat} (h2 : m < 2 ^ 31) (h : nI m = 0) : m = 0 := (nI_eq h2 (by omega)).mp (show nI m = nI 0 from h)
def clS (f : Nat → Int32) (x : Int32) : Nat → Int32
  | 0 => -4
  | i + 1 => if 0 ≤ f i ∧ (clS f x i < 0 ∨ ab (f i - x) < ab (f (kOf (clS f x i)) - x)) then nI i else clS f x i
theorem clS_c (f : Nat → Int32) (x : Int32) : ∀ i, clS f x i < 0 ∨ ∃ j, j < i ∧ clS f x i = nI j
  | 0 => Or.inl (by show (-4 : Int32) < 0; decide)
  | i + 1 => by
    rw [clS]
    split
    · exact Or.inr ⟨i, by omega, rfl⟩
    · rcases clS_c f x i with h | ⟨j, hj, e⟩
      · exact Or.inl h
      · exact Or.inr ⟨j, by omega, e⟩
/-- the sounds of a chain, from the lowest on -/
def chL (f : Nat → Int32) (n : Nat) : Nat → Int32
  | 0 => laS f (-1) n
  | i + 1 => laS f (chL f n i) n
def chS (f : Nat → Int32) (n : Nat) (step : Int32) : Int32 := if laS f (-1) n = -1 then 0 else lowD (nI n) (fun i => decide (chL f n i = -1 ∨ ¬ chL f n i - chL f n (i - 1) ≤ step)) n (n - 1)
def msS (f : Nat → Int32) : Nat → Int32 := sm (fun i => if f i < 0 then 0 else f i)
def mrS (f : Nat → Int32) : Nat → Int32 := sm (fun i => if f i < 0 then 0 else 1)
def meanS (f : Nat → Int32) (n : Nat) : UInt32 := if mrS f n = 0 then 0 else FP.fdiv (FP.i2f (msS f n)) (FP.i2f (mrS f n))
theorem wr_1 {a c t i : Nat} (h0 : 0 < c) (hi : i < min t (a / c)) : c ≤ a - c * i := by
  have h1 : i + 1 ≤ a / c := by omega
  have h2 : c * (i + 1) ≤ a := by rw [Nat.mul_comm]; exact (Nat.le_div_iff_mul_le h0).mp h1
  rw [Nat.mul_succ] at h2
  omega
theorem wr_2 {a c t : Nat} (h0 : 0 < c) (h : min t (a / c) < t) : a - c * min t (a / c) < c := by
  have h1 : min t (a / c) = a / c := by omega
  rw [h1]
  have h3 := Nat.div_add_mod a c
  have h4 := Nat.mod_lt a h0
  omega
set_option maxRecDepth 100000 in
set_option maxHeartbeats 4000000 in
theorem ct_X4_wear {l : Launch} {G : Gl} {h : Hp} {n sh g b m o : Int32} {k p tn rn xn : Nat} (hp : h p = some (ePot G n k sh g b (nI tn) (nI rn) m o)) (hk : k < 3) (htn : tn ≤ 9) (hrx : rn + xn ≤ 1000) (hA : G.2.2.1 p) : CtR l G mX4_wear 1 [.ref p, .int (nI xn)] h (none) (hset h p (ePot G n k sh g b (nI (tn - (min tn ((rn + xn) / kMealN k)))) (if tn - (min tn ((rn + xn) / kMealN k)) = 0 then 0 else nI (rn + xn - (min tn ((rn + xn) / kMealN k)) * kMealN k)) (m + nI xn) o)) := by
  obtain ⟨km, km0, km6⟩ := kMeal_n k hk
  refine Ct.of (L := [(0, _), (1, _)]) (by decide) (ble rfl) rfl ?_
  first | refine x_aload_n 0 dX4_wear_0 rfl rfl ?_ | refine x_aload_nN 0 dX4_wear_0 rfl rfl ?_
  refine x_dup dX4_wear_1 rfl ?_
  refine x_get fX4_36 rfl dX4_wear_2 (by with_reducible repeat first | assumption | exact hset_s | refine hget_n (by first | assumption | exact Ne.symm (by assumption) | exact nA (by assumption) (by omega) (by omega) (by omega)) ?_) (by rfl) ?_
  refine x_iload_n 1 dX4_wear_5 rfl rfl ?_
  refine x_iadd dX4_wear_6 ?_
  refine x_put fX4_36 rfl rfl rfl rfl dX4_wear_7 (by with_reducible repeat first | assumption | exact hset_s | refine hget_n (by first | assumption | exact Ne.symm (by assumption) | exact nA (by assumption) (by omega) (by omega) (by omega)) ?_) (by exact ble rfl) (by first | assumption | exact aA (by assumption) (by omega)) ?_
  first | refine x_aload_n 0 dX4_wear_10 rfl rfl ?_ | refine x_aload_nN 0 dX4_wear_10 rfl rfl ?_
  refine x_dup dX4_wear_11 rfl ?_
  refine x_get fX4_33 rfl dX4_wear_12 (by with_reducible repeat first | assumption | exact hset_s | refine hget_n (by first | assumption | exact Ne.symm (by assumption) | exact nA (by assumption) (by omega) (by omega) (by omega)) ?_) (by rfl) ?_
  refine x_iload_n 1 dX4_wear_15 rfl rfl ?_
  refine x_iadd dX4_wear_16 ?_
  refine x_putS fX4_33 rfl rfl rfl rfl dX4_wear_17 (by exact ble rfl) (by first | assumption | exact aA (by assumption) (by omega)) ?_
  refine x_eqH (h' := hset h p (ePot G n k sh g b (nI (tn - 0)) (nI (rn + xn - 0 * kMealN k)) (m + nI xn) o)) (by rw [Nat.zero_mul, Nat.sub_zero, Nat.sub_zero, ← nI_add]; simp [hset_2, List.set, nI]) ?_
  refine x_locs (L' := [(0, _), (1, _)]) [0, 1] rfl ?_
  refine dn (P := fun i => XX l G mX4_wear (Rm 1 0 0) (KQ G (Rm 1 0 0) (fun w h' => w = none ∧ h' = hset h p (ePot G n k sh g b (nI (tn - (min tn ((rn + xn) / kMealN k)))) (if tn - (min tn ((rn + xn) / kMealN k)) = 0 then 0 else nI (rn + xn - (min tn ((rn + xn) / kMealN k)) * kMealN k)) (m + nI xn) o))) 0 0 20 [(0, .ref p), (1, .int (nI xn))] [] (hset h p (ePot G n k sh g b (nI (tn - i)) (nI (rn + xn - i * kMealN k)) (m + nI xn) o))) (n := (min tn ((rn + xn) / kMealN k))) ?_ (fun i hi ihi => ?_)
  · first | refine x_aload_n 0 dX4_wear_20 rfl rfl ?_ | refine x_aload_nN 0 dX4_wear_20 rfl rfl ?_
    refine x_get fX4_30 rfl dX4_wear_21 (by with_reducible repeat first | assumption | exact hset_s | refine hget_n (by first | assumption | exact Ne.symm (by assumption) | exact nA (by assumption) (by omega) (by omega) (by omega)) ?_) (by rfl) ?_
    refine x_if_le 70 dX4_wear_24 (by decide) (fun c24 => ?_) (fun c24 => ?_)
    · first | refine x_aload_n 0 dX4_wear_70 rfl rfl ?_ | refine x_aload_nN 0 dX4_wear_70 rfl rfl ?_
      refine x_get fX4_30 rfl dX4_wear_71 (by with_reducible repeat first | assumption | exact hset_s | refine hget_n (by first | assumption | exact Ne.symm (by assumption) | exact nA (by assumption) (by omega) (by omega) (by omega)) ?_) (by rfl) ?_
      refine x_if_ne 82 dX4_wear_74 (by decide) (fun c74 => ?_) (fun c74 => ?_)
      · refine x_vret rfl dX4_wear_82 ?_
        refine ⟨rfl, ?_⟩
        by_cases hz : tn - (min tn ((rn + xn) / kMealN k)) = 0
        · first | exact absurd (by rw [hz]; rfl) c74 | (rw [hset_2, if_pos hz]; rfl)
        · first | (rw [if_neg hz]; done) | exact absurd (nI_z (m := tn - (min tn ((rn + xn) / kMealN k))) (Nat.lt_of_le_of_lt (Nat.sub_le _ _) (show tn < 2 ^ 31 by omega)) c74) hz
      · first | refine x_aload_n 0 dX4_wear_77 rfl rfl ?_ | refine x_aload_nN 0 dX4_wear_77 rfl rfl ?_
        refine x_iconst (v := 0) dX4_wear_78 rfl ?_
        refine x_put fX4_33 rfl rfl rfl rfl dX4_wear_79 (by with_reducible repeat first | assumption | exact hset_s | refine hget_n (by first | assumption | exact Ne.symm (by assumption) | exact nA (by assumption) (by omega) (by omega) (by omega)) ?_) (by exact ble rfl) (by first | assumption | exact aA (by assumption) (by omega)) ?_
        refine x_vret rfl dX4_wear_82 ?_
        refine ⟨rfl, ?_⟩
        by_cases hz : tn - (min tn ((rn + xn) / kMealN k)) = 0
        · first | exact absurd (by rw [hz]; rfl) c74 | (rw [hset_2, if_pos hz]; rfl)
        · first | (rw [if_neg hz]; done) | exact absurd (nI_z (m := tn - (min tn ((rn + xn) / kMealN k))) (Nat.lt_of_le_of_lt (Nat.sub_le _ _) (show tn < 2 ^ 31 by omega)) c74) hz
    · first | refine x_aload_n 0 dX4_wear_27 rfl rfl ?_ | refine x_aload_nN 0 dX4_wear_27 rfl rfl ?_
      refine x_get fX4_33 rfl dX4_wear_28 (by with_reducible repeat first | assumption | exact hset_s | refine hget_n (by first | assumption | exact Ne.symm (by assumption) | exact nA (by assumption) (by omega) (by omega) (by omega)) ?_) (by rfl) ?_
      first | refine x_aload_n 0 dX4_wear_31 rfl rfl ?_ | refine x_aload_nN 0 dX4_wear_31 rfl rfl ?_
      refine x_get fX4_15 rfl dX4_wear_32 (by with_reducible repeat first | assumption | exact hset_s | refine hget_n (by first | assumption | exact Ne.symm (by assumption) | exact nA (by assumption) (by omega) (by omega) (by omega)) ?_) (by rfl) ?_
      refine x_getO (zK_mealsToWear (by assumption)) rfl oX4_81 dX4_wear_35 ?_
      refine x_icmp_lt 70 dX4_wear_38 (by decide) (fun c38 => ?_) (fun c38 => ?_)
      · first | refine x_aload_n 0 dX4_wear_70 rfl rfl ?_ | refine x_aload_nN 0 dX4_wear_70 rfl rfl ?_
        refine x_get fX4_30 rfl dX4_wear_71 (by with_reducible repeat first | assumption | exact hset_s | refine hget_n (by first | assumption | exact Ne.symm (by assumption) | exact nA (by assumption) (by omega) (by omega) (by omega)) ?_) (by rfl) ?_
        refine x_if_ne 82 dX4_wear_74 (by decide) (fun c74 => ?_) (fun c74 => ?_)
        · refine x_vret rfl dX4_wear_82 ?_
          refine ⟨rfl, ?_⟩
          by_cases hz : tn - (min tn ((rn + xn) / kMealN k)) = 0
          · first | exact absurd (by rw [hz]; rfl) c74 | (rw [hset_2, if_pos hz]; rfl)
          · first | (rw [if_neg hz]; done) | exact absurd (nI_z (m := tn - (min tn ((rn + xn) / kMealN k))) (Nat.lt_of_le_of_lt (Nat.sub_le _ _) (show tn < 2 ^ 31 by omega)) c74) hz
        · first | refine x_aload_n 0 dX4_wear_77 rfl rfl ?_ | refine x_aload_nN 0 dX4_wear_77 rfl rfl ?_
          refine x_iconst (v := 0) dX4_wear_78 rfl ?_
          refine x_put fX4_33 rfl rfl rfl rfl dX4_wear_79 (by with_reducible repeat first | assumption | exact hset_s | refine hget_n (by first | assumption | exact Ne.symm (by assumption) | exact nA (by assumption) (by omega) (by omega) (by omega)) ?_) (by exact ble rfl) (by first | assumption | exact aA (by assumption) (by omega)) ?_
          refine x_vret rfl dX4_wear_82 ?_
          refine ⟨rfl, ?_⟩
          by_cases hz : tn - (min tn ((rn + xn) / kMealN k)) = 0
          · first | exact absurd (by rw [hz]; rfl) c74 | (rw [hset_2, if_pos hz]; rfl)
          · first | (rw [if_neg hz]; done) | exact absurd (nI_z (m := tn - (min tn ((rn + xn) / kMealN k))) (Nat.lt_of_le_of_lt (Nat.sub_le _ _) (show tn < 2 ^ 31 by omega)) c74) hz
      · exfalso
        rw [km] at c38
        have g1 : ¬ tn - min tn ((rn + xn) / kMealN k) = 0 := fun q => c24 (by rw [q]; exact Int32.le_refl _)
        have g2 := wr_2 (a := rn + xn) (c := kMealN k) (t := tn) km0 (by omega)
        exact c38 (nI_lt (by rw [Nat.mul_comm]; omega) (by omega))
  · first | refine x_aload_n 0 dX4_wear_20 rfl rfl ?_ | refine x_aload_nN 0 dX4_wear_20 rfl rfl ?_
    refine x_get fX4_30 rfl dX4_wear_21 (by with_reducible repeat first | assumption | exact hset_s | refine hget_n (by first | assumption | exact Ne.symm (by assumption) | exact nA (by assumption) (by omega) (by omega) (by omega)) ?_) (by rfl) ?_
    refine x_if_le 70 dX4_wear_24 (by decide) (fun z => by first | exact absurd z (show ¬ nI _ ≤ nI 0 from fun z => absurd (nI_lt (by omega) (by omega)) (Int32.not_lt.mpr z)) | exact absurd (show ¬ nI _ ≤ nI 0 from fun z => absurd (nI_lt (by omega) (by omega)) (Int32.not_lt.mpr z)) z) (fun _ => ?_)
    first | refine x_aload_n 0 dX4_wear_27 rfl rfl ?_ | refine x_aload_nN 0 dX4_wear_27 rfl rfl ?_
    refine x_get fX4_33 rfl dX4_wear_28 (by with_reducible repeat first | assumption | exact hset_s | refine hget_n (by first | assumption | exact Ne.symm (by assumption) | exact nA (by assumption) (by omega) (by omega) (by omega)) ?_) (by rfl) ?_
    first | refine x_aload_n 0 dX4_wear_31 rfl rfl ?_ | refine x_aload_nN 0 dX4_wear_31 rfl rfl ?_
    refine x_get fX4_15 rfl dX4_wear_32 (by with_reducible repeat first | assumption | exact hset_s | refine hget_n (by first | assumption | exact Ne.symm (by assumption) | exact nA (by assumption) (by omega) (by omega) (by omega)) ?_) (by rfl) ?_
    refine x_getO (zK_mealsToWear (by assumption)) rfl oX4_81 dX4_wear_35 ?_
    refine x_icmp_lt 70 dX4_wear_38 (by decide) (fun z => by first | exact absurd z (by rw [km]; exact fun z => absurd z (nI_nlt (by rw [Nat.mul_comm] ; exact wr_1 km0 hi) (by omega))) | exact absurd (by rw [km]; exact fun z => absurd z (nI_nlt (by rw [Nat.mul_comm] ; exact wr_1 km0 hi) (by omega))) z) (fun _ => ?_)
    first | refine x_aload_n 0 dX4_wear_41 rfl rfl ?_ | refine x_aload_nN 0 dX4_wear_41 rfl rfl ?_
    refine x_dup dX4_wear_42 rfl ?_
    refine x_get fX4_33 rfl dX4_wear_43 (by with_reducible repeat first | assumption | exact hset_s | refine hget_n (by first | assumption | exact Ne.symm (by assumption) | exact nA (by assumption) (by omega) (by omega) (by omega)) ?_) (by rfl) ?_
    first | refine x_aload_n 0 dX4_wear_46 rfl rfl ?_ | refine x_aload_nN 0 dX4_wear_46 rfl rfl ?_
    refine x_get fX4_15 rfl dX4_wear_47 (by with_reducible repeat first | assumption | exact hset_s | refine hget_n (by first | assumption | exact Ne.symm (by assumption) | exact nA (by assumption) (by omega) (by omega) (by omega)) ?_) (by rfl) ?_
    refine x_getO (zK_mealsToWear (by assumption)) rfl oX4_81 dX4_wear_50 ?_
    refine x_isub dX4_wear_53 ?_
    refine x_put fX4_33 rfl rfl rfl rfl dX4_wear_54 (by with_reducible repeat first | assumption | exact hset_s | refine hget_n (by first | assumption | exact Ne.symm (by assumption) | exact nA (by assumption) (by omega) (by omega) (by omega)) ?_) (by exact ble rfl) (by first | assumption | exact aA (by assumption) (by omega)) ?_
    first | refine x_aload_n 0 dX4_wear_57 rfl rfl ?_ | refine x_aload_nN 0 dX4_wear_57 rfl rfl ?_
    refine x_dup dX4_wear_58 rfl ?_
    refine x_get fX4_30 rfl dX4_wear_59 (by with_reducible repeat first | assumption | exact hset_s | refine hget_n (by first | assumption | exact Ne.symm (by assumption) | exact nA (by assumption) (by omega) (by omega) (by omega)) ?_) (by rfl) ?_
    refine x_iconst (v := 1) dX4_wear_62 rfl ?_
    refine x_isub dX4_wear_63 ?_
    refine x_putS fX4_30 rfl rfl rfl rfl dX4_wear_64 (by exact ble rfl) (by first | assumption | exact aA (by assumption) (by omega)) ?_
    refine x_goto 20 dX4_wear_67 (by decide) ?_
    refine x_locs (L' := [(0, _), (1, _)]) [0, 1] rfl ?_
    refine x_eqH ?_ ihi
    rw [hset_2]
    show hset h p _ = hset h p (ePot G n k sh g b (nI (tn - (i + 1))) (nI (rn + xn - (i + 1) * kMealN k)) (m + nI xn) o)
    congr 1
    have hm := wr_1 km0 hi
    rw [km]
    have e1 : nI (tn - i) - 1 = nI (tn - (i + 1)) := by rw [show (1 : Int32) = nI 1 from rfl, nI_sub' (by omega)]; congr 1
    have e2 : nI (rn + xn - i * kMealN k) - nI (kMealN k) = nI (rn + xn - (i + 1) * kMealN k) := by rw [nI_sub' (by rw [Nat.mul_comm]; exact hm)]; congr 1; rw [Nat.succ_mul]; omega
    rw [← e1, ← e2]
    rfl
theorem nI_lt2 {m : Nat} (hm : m ≤ 100) (h : nI m < 2) : m < 2 := Nat.not_le.mp fun q => nI_nlt q (by omega) (show nI m < nI 2 from h)
theorem nI_ge2 {m : Nat} (hm : m ≤ 100) (h : ¬ nI m < 2) : 2 ≤ m := Nat.not_lt.mp fun q => h (show nI m < nI 2 from nI_lt q (by omega))
theorem nI_m2 {m : Nat} (h : 2 ≤ m) : nI m + -2 = nI (m - 2) := by rw [show (-2 : Int32) = -(nI 2) from rfl, ← Int32.sub_eq_add_neg, nI_sub' h]
theorem nI_d2 (r : Int32) {m : Nat} (h : 2 ≤ m) : r + -1 - nI ((m - 2) / 2) = r - nI (m / 2) := by
  rw [show m / 2 = 1 + (m - 2) / 2 by omega, ← nI_add 1, Int32.sub_eq_add_neg, Int32.sub_eq_add_neg, Int32.neg_add, Int32.add_assoc, Int32.sub_eq_add_neg]
  rfl
set_option maxRecDepth 100000 in
set_option maxHeartbeats 4000000 in
theorem ct_X11_ringAlike {l : Launch} {G : Gl} {h : Hp} (x y : Int32) : CtR l G mX11_ringAlike 1 [.int x, .int y] h (some (.int (alK x y))) (h) := by
  refine Ct.of (L := [(0, _), (1, _)]) (by decide) (ble rfl) rfl ?_
  refine x_iload_n 0 dX11_ringAlike_0 rfl rfl ?_
  refine x_iload_n 1 dX11_ringAlike_1 rfl rfl ?_
  refine x_isub dX11_ringAlike_2 ?_
  refine x_mabs rfl wX11_323 wMabs2 wMath3 wMabs4 (ble rfl) (ble rfl) dX11_ringAlike_3 ?_
  refine x_iconst (v := 2) dX11_ringAlike_6 rfl ?_
  refine x_icmp_gt 14 dX11_ringAlike_7 (by decide) (fun c7 => ?_) (fun c7 => ?_)
  · refine x_iconst (v := 0) dX11_ringAlike_14 rfl ?_
    refine x_zret rfl (by first | rfl | (split <;> rfl) | (unfold b2i; split <;> rfl)) dX11_ringAlike_15 ?_
    refine ⟨congrArg (fun z => some (Value.int z)) ?_, rfl⟩
    first | exact (if_pos (Int32.not_lt.mp c7)).symm | exact (if_neg (fun q => absurd c7 (Int32.not_lt.mpr q))).symm
  · refine x_iconst (v := 1) dX11_ringAlike_10 rfl ?_
    refine x_goto 15 dX11_ringAlike_11 (by decide) ?_
    refine x_zret rfl (by first | rfl | (split <;> rfl) | (unfold b2i; split <;> rfl)) dX11_ringAlike_15 ?_
    refine ⟨congrArg (fun z => some (Value.int z)) ?_, rfl⟩
    first | exact (if_pos (Int32.not_lt.mp c7)).symm | exact (if_neg (fun q => absurd c7 (Int32.not_lt.mpr q))).symm
set_option maxRecDepth 100000 in
set_option maxHeartbeats 4000000 in
theorem ct_X4_ringByStep {l : Launch} {G : Gl} {h : Hp} {n sh g b r m o : Int32} {k p tn n1 : Nat} (hp : h p = some (ePot G n k sh g b (nI tn) r m o)) (hk : k < 3) (htn : tn ≤ 9) (hn1 : n1 ≤ 9) (hth : thickK k g b = nI n1) : CtR l G mX4_ringByStep 3 [.ref p] h (some (.int (ringK k g b (nI tn)))) (h) := by
  refine Ct.of (L := [(0, _)]) (by decide) (ble rfl) rfl ?_
  first | refine x_aload_n 0 dX4_ringByStep_0 rfl rfl ?_ | refine x_aload_nN 0 dX4_ringByStep_0 rfl rfl ?_
  refine x_cV1 (As := []) (ct_X4_thickness (by with_reducible repeat first | assumption | exact hset_s | refine hget_n (by first | assumption | exact Ne.symm (by assumption) | exact nA (by assumption) (by omega) (by omega) (by omega)) ?_) (by assumption)) vX4_74 rfl (x_recv (by with_reducible repeat first | assumption | exact hset_s | refine hget_n (by first | assumption | exact Ne.symm (by assumption) | exact nA (by assumption) (by omega) (by omega) (by omega)) ?_) rfl) rfl ⟨ble rfl, ble rfl⟩ (ble rfl) dX4_ringByStep_1 rfl ?_
  rw [hth]
  refine x_istore_n (L' := [(1, _), (0, _)]) dX4_ringByStep_4 rfl (ble rfl) rfl ?_
  refine x_iload_n 0 dX4_ringByStep_5 rfl rfl ?_
  refine x_if_ne 11 dX4_ringByStep_6 (by decide) (fun c6 => ?_) (fun c6 => ?_)
  · first | refine x_aload_n 1 dX4_ringByStep_11 rfl rfl ?_ | refine x_aload_nN 1 dX4_ringByStep_11 rfl rfl ?_
    refine x_cV1 (As := []) (ct_X4_isSmooth (by with_reducible repeat first | assumption | exact hset_s | refine hget_n (by first | assumption | exact Ne.symm (by assumption) | exact nA (by assumption) (by omega) (by omega) (by omega)) ?_) (by assumption)) vX4_77 rfl (x_recv (by with_reducible repeat first | assumption | exact hset_s | refine hget_n (by first | assumption | exact Ne.symm (by assumption) | exact nA (by assumption) (by omega) (by omega) (by omega)) ?_) rfl) rfl ⟨ble rfl, ble rfl⟩ (ble rfl) dX4_ringByStep_12 rfl ?_
    have J15 : ∀ v : Int32, ¬ nI n1 = 0 → v = (if b < kSm k then kBare k else kBare k + 2) → XX l G mX4_ringByStep (Rm 3 0 0) (KQ G (Rm 3 0 0) (fun w h' => w = some (.int (ringK k g b (nI tn))) ∧ h' = h)) 0 0 37 [(0, .ref p), (1, .int (nI n1))] [.int v] h := by
      intro v hnz hv
      refine x_istore_n (L' := [(2, _), (0, _), (1, _)]) dX4_ringByStep_37 rfl (ble rfl) rfl ?_
      refine x_iconst (v := 0) dX4_ringByStep_38 rfl ?_
      refine x_istore_n (L' := [(3, _), (2, _), (0, _), (1, _)]) dX4_ringByStep_39 rfl (ble rfl) rfl ?_
      refine x_locs (L' := [(3, _), (2, _), (0, _), (1, _)]) [0, 1, 2, 3] rfl ?_
      refine dn (P := fun i => XX l G mX4_ringByStep (Rm 3 0 0) (KQ G (Rm 3 0 0) (fun w h' => w = some (.int (ringK k g b (nI tn))) ∧ h' = h)) 0 0 40 [(3, .int (nI i)), (2, .int (rsF k v i)), (0, .ref p), (1, .int (nI n1))] [] h) (n := n1) ?_ (fun i hi ihi => ?_)
      · refine x_iload_n 0 dX4_ringByStep_40 rfl rfl ?_
        refine x_iload_n 3 dX4_ringByStep_41 rfl rfl ?_
        refine x_icmp_ge 61 dX4_ringByStep_42 (by decide) (fun _ => ?_) (fun z => by first | exact absurd (Int32.le_refl _) z | exact absurd z (Int32.le_refl _))
        refine x_iconst (v := 0) dX4_ringByStep_61 rfl ?_
        refine x_istore_n (L' := [(3, _), (2, _), (0, _), (1, _)]) dX4_ringByStep_62 rfl (ble rfl) rfl ?_
        refine x_iconst (v := 0) dX4_ringByStep_63 rfl ?_
        refine x_istore (L' := [(4, _), (3, _), (2, _), (0, _), (1, _)]) dX4_ringByStep_64 (ble rfl) rfl ?_
        refine x_locs (L' := [(4, _), (3, _), (2, _), (0, _), (1, _)]) [0, 1, 2, 3, 4] rfl ?_
        refine dn (P := fun i => XX l G mX4_ringByStep (Rm 3 0 0) (KQ G (Rm 3 0 0) (fun w h' => w = some (.int (ringK k g b (nI tn))) ∧ h' = h)) 0 0 66 [(4, .int (nI i)), (3, .int (nI (hvF k i))), (2, .int (dcF k (rsF k v n1) i)), (0, .ref p), (1, .int (nI n1))] [] h) (n := tn) ?_ (fun i hi ihi => ?_)
        · refine x_iload 0 dX4_ringByStep_66 rfl ?_
          first | refine x_aload_n 3 dX4_ringByStep_68 rfl rfl ?_ | refine x_aload_nN 3 dX4_ringByStep_68 rfl rfl ?_
          refine x_get fX4_30 rfl dX4_ringByStep_69 (by with_reducible repeat first | assumption | exact hset_s | refine hget_n (by first | assumption | exact Ne.symm (by assumption) | exact nA (by assumption) (by omega) (by omega) (by omega)) ?_) (by rfl) ?_
          refine x_icmp_ge 105 dX4_ringByStep_72 (by decide) (fun _ => ?_) (fun z => by first | exact absurd (Int32.le_refl _) z | exact absurd z (Int32.le_refl _))
          refine x_iload_n 2 dX4_ringByStep_105 rfl rfl ?_
          refine x_iret rfl dX4_ringByStep_106 ?_
          refine ⟨congrArg (fun z => some (Value.int z)) ?_, rfl⟩
          unfold ringK
          rw [hth]
          first | (rw [if_pos (by assumption)]; done) | (rw [if_neg hnz, dcF_e, rsF_e, (rs_t k hk n1 (by omega)).1, (rs_t k hk tn (by omega)).2.1, hv]; split <;> first | rfl | (ac_nf; rfl) | (simp only [Int32.sub_eq_add_neg]; ac_rfl))
        · have J : ∀ (f m : Nat) (r : Int32), m ≤ 100 → m < f → XX l G mX4_ringByStep (Rm 3 0 0) (KQ G (Rm 3 0 0) (fun w h' => w = some (.int (ringK k g b (nI tn))) ∧ h' = h)) 0 0 99 [(3, .int (nI (m % 2))), (2, .int (r - nI (m / 2))), (0, .ref p), (1, .int (nI n1)), (4, .int (nI i))] [] h → XX l G mX4_ringByStep (Rm 3 0 0) (KQ G (Rm 3 0 0) (fun w h' => w = some (.int (ringK k g b (nI tn))) ∧ h' = h)) 0 0 85 [(3, .int (nI m)), (2, .int r), (0, .ref p), (1, .int (nI n1)), (4, .int (nI i))] [] h := by
            intro f
            induction f with
            | zero => intro m r h100 hm kx; exact absurd hm (Nat.not_lt_zero m)
            | succ f ihf =>
              intro m r h100 hm kx
              refine x_iload_n 0 dX4_ringByStep_85 rfl rfl ?_
              refine x_iconst (v := 2) dX4_ringByStep_86 rfl ?_
              refine x_icmp_lt 99 dX4_ringByStep_87 (by decide) (fun c87 => ?_) (fun c87 => ?_)
              · refine x_locs (L' := [(3, _), (2, _), (0, _), (1, _), (4, _)]) [0, 1, 2, 3, 4] rfl ?_
                refine x_eqL ?_ kx
                rw [Nat.mod_eq_of_lt (nI_lt2 (by omega) c87), Nat.div_eq_of_lt (nI_lt2 (by omega) c87)]
                simp [nI]
              · refine x_iinc (L' := [(2, _), (3, _), (0, _), (1, _), (4, _)]) (j := 1) (_ + (-1)) dX4_ringByStep_90 rfl rfl (ble rfl) rfl ?_
                refine x_iinc (L' := [(3, _), (2, _), (0, _), (1, _), (4, _)]) (j := 1) (_ + (-2)) dX4_ringByStep_93 rfl rfl (ble rfl) rfl ?_
                refine x_goto 85 dX4_ringByStep_96 (by decide) ?_
                refine x_locs (L' := [(3, _), (2, _), (0, _), (1, _), (4, _)]) [0, 1, 2, 3, 4] rfl ?_
                refine x_eqL ?_ (ihf (m - 2) (r + -1) (by omega) (by have := nI_ge2 (by omega) c87; omega) (x_eqL ?_ kx))
                · rw [nI_m2 (nI_ge2 (by omega) c87)]
                · have h2 := nI_ge2 (by omega) c87
                  rw [show (m - 2) % 2 = m % 2 by omega, nI_d2 r h2]
          have hh := (rs_t k hk i (by omega)).2.2
          obtain ⟨kh, kh4⟩ := kHalf_n k hk
          refine x_iload 0 dX4_ringByStep_66 rfl ?_
          first | refine x_aload_n 3 dX4_ringByStep_68 rfl rfl ?_ | refine x_aload_nN 3 dX4_ringByStep_68 rfl rfl ?_
          refine x_get fX4_30 rfl dX4_ringByStep_69 (by with_reducible repeat first | assumption | exact hset_s | refine hget_n (by first | assumption | exact Ne.symm (by assumption) | exact nA (by assumption) (by omega) (by omega) (by omega)) ?_) (by rfl) ?_
          refine x_icmp_ge 105 dX4_ringByStep_72 (by decide) (fun z => by first | exact absurd z (nI_ge hi (by omega)) | exact absurd (nI_ge hi (by omega)) z) (fun _ => ?_)
          refine x_iload_n 1 dX4_ringByStep_75 rfl rfl ?_
          first | refine x_aload_n 3 dX4_ringByStep_76 rfl rfl ?_ | refine x_aload_nN 3 dX4_ringByStep_76 rfl rfl ?_
          refine x_get fX4_15 rfl dX4_ringByStep_77 (by with_reducible repeat first | assumption | exact hset_s | refine hget_n (by first | assumption | exact Ne.symm (by assumption) | exact nA (by assumption) (by omega) (by omega) (by omega)) ?_) (by rfl) ?_
          refine x_getO (zK_halvesByTin (by assumption)) rfl oX4_71 dX4_ringByStep_80 ?_
          refine x_iadd dX4_ringByStep_83 ?_
          refine x_istore_n (L' := [(3, _), (4, _), (2, _), (0, _), (1, _)]) dX4_ringByStep_84 rfl (ble rfl) rfl ?_
          refine x_locs (L' := [(3, _), (2, _), (0, _), (1, _), (4, _)]) [0, 2, 3, 4, 1] rfl ?_
          refine x_eqL (L' := [(3, .int (nI (hvF k i + kHalfN k))), (2, .int (dcF k (rsF k v n1) i)), (0, .ref p), (1, .int (nI n1)), (4, .int (nI i))]) (by rw [kh, nI_add]) ?_
          refine J _ _ _ (by omega) (Nat.lt_succ_self _) ?_
          refine x_iinc (L' := [(4, _), (3, _), (2, _), (0, _), (1, _)]) (j := 4) (nI (_ + 1)) dX4_ringByStep_99 rfl (nI_1 _) (ble rfl) rfl ?_
          refine x_goto 66 dX4_ringByStep_102 (by decide) ?_
          refine x_locs (L' := [(4, _), (3, _), (2, _), (0, _), (1, _)]) [0, 1, 2, 3, 4] rfl ?_
          exact ihi
      · refine x_iload_n 0 dX4_ringByStep_40 rfl rfl ?_
        refine x_iload_n 3 dX4_ringByStep_41 rfl rfl ?_
        refine x_icmp_ge 61 dX4_ringByStep_42 (by decide) (fun z => by first | exact absurd z (nI_ge hi (by omega)) | exact absurd (nI_ge hi (by omega)) z) (fun _ => ?_)
        refine x_iload_n 1 dX4_ringByStep_45 rfl rfl ?_
        first | refine x_aload_n 2 dX4_ringByStep_46 rfl rfl ?_ | refine x_aload_nN 2 dX4_ringByStep_46 rfl rfl ?_
        refine x_get fX4_15 rfl dX4_ringByStep_47 (by with_reducible repeat first | assumption | exact hset_s | refine hget_n (by first | assumption | exact Ne.symm (by assumption) | exact nA (by assumption) (by omega) (by omega) (by omega)) ?_) (by rfl) ?_
        refine x_getO (zK_soundByThickness (by assumption)) rfl oX4_68 dX4_ringByStep_50 ?_
        refine x_iadd dX4_ringByStep_53 ?_
        refine x_istore_n (L' := [(2, _), (3, _), (0, _), (1, _)]) dX4_ringByStep_54 rfl (ble rfl) rfl ?_
        refine x_iinc (L' := [(3, _), (2, _), (0, _), (1, _)]) (j := 1) (nI (_ + 1)) dX4_ringByStep_55 rfl (nI_1 _) (ble rfl) rfl ?_
        refine x_goto 40 dX4_ringByStep_58 (by decide) ?_
        refine x_locs (L' := [(3, _), (2, _), (0, _), (1, _)]) [0, 1, 2, 3] rfl ?_
        exact ihi
    refine x_if_eq 30 dX4_ringByStep_15 (by decide) (fun c15 => ?_) (fun c15 => ?_)
    · first | refine x_aload_n 1 dX4_ringByStep_30 rfl rfl ?_ | refine x_aload_nN 1 dX4_ringByStep_30 rfl rfl ?_
      refine x_get fX4_15 rfl dX4_ringByStep_31 (by with_reducible repeat first | assumption | exact hset_s | refine hget_n (by first | assumption | exact Ne.symm (by assumption) | exact nA (by assumption) (by omega) (by omega) (by omega)) ?_) (by rfl) ?_
      refine x_getO (zK_bareSound (by assumption)) rfl oX4_65 dX4_ringByStep_34 ?_
      refine x_locs (L' := [(0, _), (1, _)]) [1, 0] rfl ?_
      refine J15 _ (by assumption) ?_
      unfold smoothK at *
      by_cases hb : b < kSm k <;> simp_all
    · first | refine x_aload_n 1 dX4_ringByStep_18 rfl rfl ?_ | refine x_aload_nN 1 dX4_ringByStep_18 rfl rfl ?_
      refine x_get fX4_15 rfl dX4_ringByStep_19 (by with_reducible repeat first | assumption | exact hset_s | refine hget_n (by first | assumption | exact Ne.symm (by assumption) | exact nA (by assumption) (by omega) (by omega) (by omega)) ?_) (by rfl) ?_
      refine x_getO (zK_bareSound (by assumption)) rfl oX4_65 dX4_ringByStep_22 ?_
      refine x_iconst (v := 2) dX4_ringByStep_25 rfl ?_
      refine x_iadd dX4_ringByStep_26 ?_
      refine x_goto 37 dX4_ringByStep_27 (by decide) ?_
      refine x_locs (L' := [(0, _), (1, _)]) [1, 0] rfl ?_
      refine J15 _ (by assumption) ?_
      unfold smoothK at *
      by_cases hb : b < kSm k <;> simp_all
  · refine x_iconst (v := 0) dX4_ringByStep_9 rfl ?_
    refine x_iret rfl dX4_ringByStep_10 ?_
    refine ⟨congrArg (fun z => some (Value.int z)) ?_, rfl⟩
    unfold ringK
    rw [hth]
    first | (rw [if_pos (by assumption)]; done) | (rw [if_neg hnz, dcF_e, rsF_e, (rs_t k hk n1 (by omega)).1, (rs_t k hk tn (by omega)).2.1, hv]; split <;> first | rfl | (ac_nf; rfl) | (simp only [Int32.sub_eq_add_neg]; ac_rfl))
