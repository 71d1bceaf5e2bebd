/-! ===== pure: bits of numbers; the most orders that can be filled, both ways ===== -/
theorem or_nI (a b : Nat) : nI a ||| nI b = nI (a ||| b) := by
  have e : ∀ n, nI n = (UInt32.ofNat n).toInt32 := fun n => rfl
  rw [e, e, e, UInt32.ofNat_or]
  rfl
theorem and_nI (a b : Nat) : nI a &&& nI b = nI (a &&& b) := by
  have e : ∀ n, nI n = (UInt32.ofNat n).toInt32 := fun n => rfl
  rw [e, e, e, UInt32.ofNat_and]
  rfl
theorem ush_t : ∀ k, k < 31 → (((nI k).toUInt32 &&& Int32.toUInt32 31).toBitVec % 32).toNat = k ∧ ((nI k &&& 31).toBitVec.smod 32).toNat = k := by decide +kernel
theorem ush_nI {a k : Nat} (ha : a < 2 ^ 31) (hk : k < 31) : ((nI a).toUInt32 >>> ((nI k).toUInt32 &&& Int32.toUInt32 31)).toInt32 = nI (a >>> k) := by
  rw [pk_ushrN (by omega) (nI k) k (ush_t k hk).1, Nat.shiftRight_eq_div_pow]
def sw0 (x : Nat) : Nat := x - ((x >>> 1) &&& 1431655765)
def sw1 (x : Nat) : Nat := (x &&& 858993459) + ((x >>> 2) &&& 858993459)
def sw2 (x : Nat) : Nat := (x + x >>> 4) &&& 252645135
def sw3 (x : Nat) : Nat := x + x >>> 8
def sw4 (x : Nat) : Nat := x + x >>> 16
def sw (x : Nat) : Nat := sw4 (sw3 (sw2 (sw1 (sw0 x)))) &&& 63
theorem bcI_sw {x : Nat} (hx : x < 65536) : bcI (nI x) = nI (sw x) := by
  have b0 : bc0 (nI x) = nI (sw0 x) ∧ sw0 x ≤ 65536 := by
    unfold bc0 sw0
    rw [show (1 : Int32) = nI 1 from rfl, ush_nI (by omega) (by omega), show (1431655765 : Int32) = nI 1431655765 from rfl, and_nI]
    have h1 : (x >>> 1) &&& 1431655765 ≤ x := Nat.le_trans Nat.and_le_left (Nat.shiftRight_le x 1)
    exact ⟨nI_sub' h1, by omega⟩
  obtain ⟨e0, l0⟩ := b0
  have b1 : bc1 (nI (sw0 x)) = nI (sw1 (sw0 x)) ∧ sw1 (sw0 x) ≤ 131072 := by
    generalize sw0 x = y at l0
    unfold bc1 sw1
    rw [show (2 : Int32) = nI 2 from rfl, ush_nI (by omega) (by omega), show (858993459 : Int32) = nI 858993459 from rfl, and_nI, and_nI, nI_add]
    have h1 : (y >>> 2) &&& 858993459 ≤ y := Nat.le_trans Nat.and_le_left (Nat.shiftRight_le y 2)
    have h2 : y &&& 858993459 ≤ y := Nat.and_le_left
    exact ⟨rfl, by omega⟩
  obtain ⟨e1, l1⟩ := b1
  have b2 : bc2 (nI (sw1 (sw0 x))) = nI (sw2 (sw1 (sw0 x))) ∧ sw2 (sw1 (sw0 x)) ≤ 262144 := by
    generalize sw1 (sw0 x) = y at l1
    unfold bc2 sw2
    rw [show (4 : Int32) = nI 4 from rfl, ush_nI (by omega) (by omega), show (252645135 : Int32) = nI 252645135 from rfl, nI_add, and_nI]
    have h1 := Nat.shiftRight_le y 4
    have h2 : (y + y >>> 4) &&& 252645135 ≤ y + y >>> 4 := Nat.and_le_left
    exact ⟨rfl, by omega⟩
  obtain ⟨e2, l2⟩ := b2
  have b3 : bc3 (nI (sw2 (sw1 (sw0 x)))) = nI (sw3 (sw2 (sw1 (sw0 x)))) ∧ sw3 (sw2 (sw1 (sw0 x))) ≤ 524288 := by
    generalize sw2 (sw1 (sw0 x)) = y at l2
    unfold bc3 sw3
    rw [show (8 : Int32) = nI 8 from rfl, ush_nI (by omega) (by omega), nI_add]
    have h1 := Nat.shiftRight_le y 8
    exact ⟨rfl, by omega⟩
  obtain ⟨e3, l3⟩ := b3
  have b4 : bc4 (nI (sw3 (sw2 (sw1 (sw0 x))))) = nI (sw4 (sw3 (sw2 (sw1 (sw0 x))))) := by
    generalize sw3 (sw2 (sw1 (sw0 x))) = y at l3
    unfold bc4 sw4
    rw [show (16 : Int32) = nI 16 from rfl, ush_nI (by omega) (by omega), nI_add]
  unfold bcI sw
  rw [e0, e1, e2, e3, b4, show (63 : Int32) = nI 63 from rfl, and_nI]
def p4 (x : Nat) : Nat := x % 2 + x / 2 % 2 + x / 4 % 2 + x / 8 % 2
theorem sw_p4 : ∀ a, a < 16 → ∀ b, b < 16 → ∀ c, c < 16 → ∀ d, d < 16 → sw (4096 * a + 256 * b + 16 * c + d) = p4 a + p4 b + p4 c + p4 d := by decide +kernel
theorem tb_e (x k : Nat) : (if x.testBit k = true then 1 else 0) = x / 2 ^ k % 2 := by
  rw [Nat.testBit_eq_decide_div_mod_eq]
  by_cases h : x / 2 ^ k % 2 = 1
  · rw [decide_eq_true h, if_pos rfl, h]
  · rw [decide_eq_false h, if_neg (by decide)]
    omega
theorem cB_16 (P : Nat → Bool) : cB P 16 = ((((((((((((((((0 + (if P 0 = true then 1 else 0)) + (if P 1 = true then 1 else 0)) + (if P 2 = true then 1 else 0)) + (if P 3 = true then 1 else 0)) + (if P 4 = true then 1 else 0)) + (if P 5 = true then 1 else 0)) + (if P 6 = true then 1 else 0)) + (if P 7 = true then 1 else 0)) + (if P 8 = true then 1 else 0)) + (if P 9 = true then 1 else 0)) + (if P 10 = true then 1 else 0)) + (if P 11 = true then 1 else 0)) + (if P 12 = true then 1 else 0)) + (if P 13 = true then 1 else 0)) + (if P 14 = true then 1 else 0)) + (if P 15 = true then 1 else 0)) := rfl
theorem p4m (y : Nat) : p4 (y % 16) = y % 2 + y / 2 % 2 + y / 4 % 2 + y / 8 % 2 := by
  unfold p4
  omega
theorem sw_e {x : Nat} (hx : x < 65536) : sw x = cB x.testBit 16 := by
  have e := sw_p4 (x / 4096 % 16) (by omega) (x / 256 % 16) (by omega) (x / 16 % 16) (by omega) (x % 16) (by omega)
  rw [show 4096 * (x / 4096 % 16) + 256 * (x / 256 % 16) + 16 * (x / 16 % 16) + x % 16 = x by omega, p4m, p4m, p4m, p4m] at e
  rw [e, cB_16]
  simp only [tb_e, Nat.div_div_eq_div_mul, Nat.reduceMul, Nat.reducePow, Nat.div_one, Nat.zero_add]
  ac_rfl
theorem bcI_e {x : Nat} (hx : x < 65536) : bcI (nI x) = nI (cB x.testBit 16) := by rw [bcI_sw hx, sw_e hx]
/-- a bit of a number, as the class and the model look at it -/
theorem bit_e {s k : Nat} (hs : s < 2 ^ 31) (hk : k < 31) : (nI s >>> (nI k &&& 31)) &&& 1 = if s.testBit k = true then 1 else 0 := by
  rw [pk_shrN hs (nI k &&& 31) k (ush_t k hk).2, show (1 : Int32) = nI 1 from rfl, and_nI, Nat.and_one_is_mod, Nat.testBit_eq_decide_div_mod_eq]
  by_cases h : s / 2 ^ k % 2 = 1
  · rw [decide_eq_true h, if_pos rfl, h]
  · rw [decide_eq_false h, if_neg (by decide), show s / 2 ^ k % 2 = 0 by omega]; rfl
theorem bit_1 {s k : Nat} (hs : s < 2 ^ 31) (hk : k < 31) : (nI s >>> (nI k &&& 31)) &&& 1 = 1 ↔ s.testBit k = true := by
  rw [bit_e hs hk]
  cases s.testBit k <;> decide
theorem bit_0 {s k : Nat} (hs : s < 2 ^ 31) (hk : k < 31) : (nI s >>> (nI k &&& 31)) &&& 1 = 0 ↔ s.testBit k = false := by
  rw [bit_e hs hk]
  cases s.testBit k <;> decide
def orM (F : Nat → Nat) : Nat → Nat
  | 0 => 0
  | n + 1 => orM F n ||| F n
theorem orF_M {f : Nat → Int32} {F : Nat → Nat} : ∀ n, (∀ k, k < n → f k = nI (F k)) → orF f n = nI (orM F n)
  | 0, _ => rfl
  | n + 1, h => by
    rw [orF_s, orF_M n (fun k hk => h k (by omega)), h n (by omega), or_nI]
    rfl
theorem orM_lt {F : Nat → Nat} {w : Nat} : ∀ n, (∀ k, k < n → F k < 2 ^ w) → orM F n < 2 ^ w
  | 0, _ => Nat.two_pow_pos w
  | n + 1, h => Nat.or_lt_two_pow (orM_lt n (fun k hk => h k (by omega))) (h n (by omega))
theorem orM_b {F : Nat → Nat} {q : Nat} : ∀ n, (orM F n).testBit q = true ↔ ∃ k, k < n ∧ (F k).testBit q = true
  | 0 => by
    show (0 : Nat).testBit q = true ↔ _
    rw [Nat.zero_testBit]
    exact ⟨fun h => (by cases h), fun ⟨k, h, _⟩ => absurd h (Nat.not_lt_zero k)⟩
  | n + 1 => by
    show (orM F n ||| F n).testBit q = true ↔ _
    rw [Nat.testBit_or, Bool.or_eq_true, orM_b n]
    constructor
    · rintro (⟨k, h1, h2⟩ | h)
      · exact ⟨k, by omega, h2⟩
      · exact ⟨n, by omega, h⟩
    · rintro ⟨k, h1, h2⟩
      rcases Nat.lt_or_ge k n with z | z
      · exact Or.inl ⟨k, z, h2⟩
      · rw [show n = k by omega]; exact Or.inr h2
/-- every set is a number -/
theorem set_n (X : Nat → Bool) : ∀ n, ∃ s, s < 2 ^ n ∧ ∀ k, k < n → s.testBit k = X k
  | 0 => ⟨0, by decide, fun k hk => absurd hk (Nat.not_lt_zero k)⟩
  | n + 1 => by
    obtain ⟨s, h1, h2⟩ := set_n X n
    by_cases q : X n = true
    · refine ⟨s ||| 2 ^ n, ?_, fun k hk => ?_⟩
      · exact Nat.or_lt_two_pow (Nat.lt_of_lt_of_le h1 (Nat.pow_le_pow_right (by omega) (by omega))) (Nat.pow_lt_pow_right (by omega) (by omega))
      · rw [Nat.testBit_or, Nat.testBit_two_pow]
        rcases Nat.lt_or_ge k n with z | z
        · rw [h2 k z, decide_eq_false (show ¬ n = k by omega), Bool.or_false]
        · rw [show k = n by omega, decide_eq_true rfl, q, Bool.or_true]
    · refine ⟨s, Nat.lt_of_lt_of_le h1 (Nat.pow_le_pow_right (by omega) (by omega)), fun k hk => ?_⟩
      rcases Nat.lt_or_ge k n with z | z
      · exact h2 k z
      · rw [show k = n by omega, Nat.testBit_lt_two_pow h1]
        exact (Bool.eq_false_iff.mpr q).symm
/-! the model's way: sets of orders that the pots so far can fill -/
def adjN (N : Nat → Int32) (no q o : Nat) : Bool := decide (o < no ∧ N (191 + 5 * o) = -4 ∧ ¬ goodN N q o = 0)
theorem adj_t {N : Nat → Int32} {no q o : Nat} : adjN N no q o = true ↔ o < no ∧ N (191 + 5 * o) = -4 ∧ ¬ goodN N q o = 0 := by unfold adjN; exact decide_eq_true_iff
theorem dsM_t {N : Nat → Int32} {p s q : Nat} (hs : s < 256) (hq : q < 8) : ¬ dsM N p s q = 0 ↔ s.testBit q = false ∧ N (191 + 5 * q) = -4 ∧ ¬ goodN N p q = 0 := by
  unfold dsM
  rw [← bit_0 (s := s) (k := q) (by omega) (by omega)]
  by_cases c : (nI s >>> (nI q &&& 31)) &&& 1 = 0 ∧ N (191 + 5 * q) = -4 ∧ ¬ goodN N p q = 0
  · rw [if_pos c]; exact ⟨fun _ => c, fun _ => by decide⟩
  · rw [if_neg c]; exact ⟨fun z => absurd rfl z, fun z => absurd z c⟩
theorem updN (f : Nat → Int32) (k : Nat) (x : Int32) (j : Nat) : upd f k x j = if j = k then x else f j := rfl
theorem inF_t {N : Nat → Int32} {p t : Nat} {c : Nat → Int32} (s : Nat) : ∀ q, ¬ inF N p t c q s = 0 ↔ ¬ c s = 0 ∨ ∃ j, j < q ∧ s = orS N p t j
  | 0 => ⟨fun h => Or.inl h, fun h => h.elim id (fun ⟨j, h, _⟩ => absurd h (Nat.not_lt_zero j))⟩
  | q + 1 => by
    rw [← inF_s, updN]
    by_cases e : s = orS N p t q
    · rw [if_pos e]; exact ⟨fun _ => Or.inr ⟨q, by omega, e⟩, fun _ => by decide⟩
    · rw [if_neg e, inF_t s q]
      constructor
      · rintro (h | ⟨j, h1, h2⟩)
        · exact Or.inl h
        · exact Or.inr ⟨j, by omega, h2⟩
      · rintro (h | ⟨j, h1, h2⟩)
        · exact Or.inl h
        · rcases Nat.lt_or_ge j q with z | z
          · exact Or.inr ⟨j, z, h2⟩
          · rw [show j = q by omega] at h2; exact absurd h2 e
theorem seF_t {N : Nat → Int32} {no p : Nat} {c : Nat → Int32} (hno : no ≤ 8) : ∀ k, k ≤ 256 → ∀ s, s < 256 → (¬ seF N no p c k s = 0 ↔ ¬ c s = 0 ∨ ∃ t o, 256 - k ≤ t ∧ t < 256 ∧ o < no ∧ ¬ c t = 0 ∧ ¬ dsM N p t o = 0 ∧ s = t ||| 2 ^ o)
  | 0, _, s, hs => ⟨fun h => Or.inl h, fun h => h.elim id (fun ⟨t, o, h1, h2, _⟩ => absurd h2 (by omega))⟩
  | k + 1, hk, s, hs => by
    have ih := seF_t (N := N) (p := p) (c := c) hno k (by omega)
    have same : ¬ seF N no p c k (255 - k) = 0 ↔ ¬ c (255 - k) = 0 := by
      rw [ih (255 - k) (by omega)]
      constructor
      · rintro (h | ⟨t, o, h1, h2, h3, h4, h5, h6⟩)
        · exact h
        · have : t ≤ t ||| 2 ^ o := Nat.left_le_or
          omega
      · exact Or.inl
    show ¬ stF N no p (255 - k) (seF N no p c k) s = 0 ↔ _
    unfold stF
    by_cases q : seF N no p c k (255 - k) = 0
    · rw [if_pos q, ih s hs]
      have q2 : c (255 - k) = 0 := Classical.byContradiction fun z => (same.mpr z) q
      constructor
      · rintro (h | ⟨t, o, h1, h2⟩)
        · exact Or.inl h
        · exact Or.inr ⟨t, o, by omega, h2⟩
      · rintro (h | ⟨t, o, h1, h2, h3, h4, h5⟩)
        · exact Or.inl h
        · have : ¬ t = 255 - k := fun z => h4 (by rw [z]; exact q2)
          exact Or.inr ⟨t, o, by omega, h2, h3, h4, h5⟩
    · rw [if_neg q, inF_t, ih s hs]
      have q2 := same.mp q
      constructor
      · rintro ((h | ⟨t, o, h1, h2⟩) | ⟨j, h1, h2⟩)
        · exact Or.inl h
        · exact Or.inr ⟨t, o, by omega, h2⟩
        · unfold orS at h2
          by_cases d : dsM N p (255 - k) j = 0
          · rw [if_pos d] at h2
            subst h2
            exact Or.inl q2
          · rw [if_neg d] at h2
            exact Or.inr ⟨255 - k, j, by omega, by omega, h1, q2, d, h2⟩
      · rintro (h | ⟨t, o, h1, h2, h3, h4, h5, h6⟩)
        · exact Or.inl (Or.inl h)
        · by_cases z : t = 255 - k
          · subst z
            exact Or.inr ⟨o, h3, by unfold orS; rw [if_neg h5]; exact h6⟩
          · exact Or.inl (Or.inr ⟨t, o, by omega, h2, h3, h4, h5, h6⟩)
theorem xo_t : ∀ s, s < 256 → ∀ o, o < 8 → s.testBit o = true → (s ^^^ 2 ^ o) < 256 ∧ s = (s ^^^ 2 ^ o) ||| 2 ^ o ∧ (s ^^^ 2 ^ o).testBit o = false ∧ ∀ k, k < 8 → (s ^^^ 2 ^ o).testBit k = (s.testBit k && !decide (k = o)) := by decide +kernel
theorem or_b : ∀ t, t < 256 → ∀ o, o < 8 → t.testBit o = false → (t ||| 2 ^ o).testBit o = true ∧ ∀ k, k < 8 → ((t ||| 2 ^ o).testBit k && !decide (k = o)) = t.testBit k := by decide +kernel
theorem z_b : ∀ s, s < 256 → (s = 0 ↔ ∀ k, k < 8 → s.testBit k = false) := by decide +kernel
theorem poF_t {N : Nat → Int32} {no : Nat} {c : Nat → Int32} (hno : no ≤ 8) : ∀ p s, s < 256 → (¬ poF N no c p s = 0 ↔ Mt (adjN N no) 8 p s.testBit)
  | 0, s, hs => by
    show ¬ ziF c 256 s = 0 ↔ ∀ o, o < 8 → s.testBit o = false
    unfold ziF
    rw [if_pos hs, ← z_b s hs]
    by_cases z : s = 0
    · rw [if_pos z]; exact ⟨fun _ => z, fun _ => by decide⟩
    · rw [if_neg z]; exact ⟨fun h => absurd rfl h, fun h => absurd h z⟩
  | p + 1, s, hs => by
    show ¬ seF N no p (poF N no c p) 256 s = 0 ↔ (Mt (adjN N no) 8 p s.testBit ∨ ∃ o, o < 8 ∧ s.testBit o = true ∧ adjN N no p o = true ∧ Mt (adjN N no) 8 p (fun k => s.testBit k && !decide (k = o)))
    rw [seF_t hno 256 (Nat.le_refl _) s hs, poF_t hno p s hs]
    constructor
    · rintro (h | ⟨t, o, -, h2, h3, h4, h5, h6⟩)
      · exact Or.inl h
      · obtain ⟨d1, d2, d3⟩ := (dsM_t h2 (show o < 8 by omega)).mp h5
        obtain ⟨o1, o2⟩ := or_b t h2 o (by omega) d1
        rw [← h6] at o1 o2
        exact Or.inr ⟨o, by omega, o1, adj_t.mpr ⟨h3, d2, d3⟩, ((poF_t hno p t h2).mp h4).cg (fun k hk => (o2 k hk).symm)⟩
    · rintro (h | ⟨o, h1, h2, h3, h4⟩)
      · exact Or.inl h
      · obtain ⟨a1, a2, a3⟩ := adj_t.mp h3
        obtain ⟨x1, x2, x3, x4⟩ := xo_t s hs o h1 h2
        exact Or.inr ⟨s ^^^ 2 ^ o, o, by omega, x1, a1, (poF_t hno p _ x1).mpr (h4.cg (fun k hk => (x4 k hk).symm)), (dsM_t x1 h1).mpr ⟨x3, a2, a3⟩, x2⟩
theorem btM_e : ∀ s, s < 256 → btM s = nI (cB s.testBit 8) := by decide +kernel
theorem mfM_max {c : Nat → Int32} : ∀ n, n ≤ 256 → ∃ w, w ≤ 8 ∧ mfM c n = nI w ∧ (w = 0 ∨ ∃ s, s < n ∧ ¬ c s = 0 ∧ w = cB s.testBit 8) ∧ ∀ s, s < n → ¬ c s = 0 → cB s.testBit 8 ≤ w
  | 0, _ => ⟨0, by omega, rfl, Or.inl rfl, fun s hs => absurd hs (Nat.not_lt_zero s)⟩
  | n + 1, hn => by
    obtain ⟨w, h1, h2, h3, h4⟩ := mfM_max n (by omega)
    rw [mfM_s]
    by_cases q : c n = 0
    · rw [if_pos q]
      refine ⟨w, h1, h2, ?_, fun s hs hc => ?_⟩
      · rcases h3 with h3 | ⟨s, a, b⟩
        · exact Or.inl h3
        · exact Or.inr ⟨s, by omega, b⟩
      · rcases Nat.lt_or_ge s n with z | z
        · exact h4 s z hc
        · rw [show s = n by omega] at hc; exact absurd q hc
    · have hb := btM_e n (by omega)
      have hb8 := cB_le n.testBit 8
      rw [if_neg q, h2, hb]
      unfold mx
      by_cases z : w < cB n.testBit 8
      · rw [if_pos (nI_lt z (by omega))]
        refine ⟨_, hb8, rfl, Or.inr ⟨n, by omega, q, rfl⟩, fun s hs hc => ?_⟩
        rcases Nat.lt_or_ge s n with y | y
        · have := h4 s y hc; omega
        · rw [show s = n by omega]; exact Nat.le_refl _
      · rw [if_neg (nI_nlt (by omega) (by omega))]
        refine ⟨w, h1, rfl, ?_, fun s hs hc => ?_⟩
        · rcases h3 with h3 | ⟨s, a, b⟩
          · exact Or.inl h3
          · exact Or.inr ⟨s, by omega, b⟩
        · rcases Nat.lt_or_ge s n with y | y
          · exact h4 s y hc
          · rw [show s = n by omega]; omega
/-- the orders that are open -/
def opB (N : Nat → Int32) (no o : Nat) : Bool := decide (o < no ∧ N (191 + 5 * o) = -4)
theorem modelMost {N : Nat → Int32} {no np : Nat} {c : Nat → Int32} (hno : no ≤ 8) : ∃ w, w ≤ 8 ∧ mfM (poF N no c np) 256 = nI w ∧ (∃ T, w = fH (adjN N no) 8 np (opB N no) T) ∧ ∀ T, w ≤ fH (adjN N no) 8 np (opB N no) T := by
  obtain ⟨w, h1, h2, h3, h4⟩ := mfM_max (c := poF N no c np) 256 (Nat.le_refl _)
  obtain ⟨s, a1, a2, T, a3⟩ := hall (adj := adjN N no) (m := 8) np (opB N no)
  obtain ⟨x, x1, x2⟩ := set_n s 8
  have x3 : Mt (adjN N no) 8 np x.testBit := a2.cg (fun k hk => (x2 k hk).symm)
  have x4 := h4 x x1 ((poF_t hno np x x1).mpr x3)
  have x5 : cB x.testBit 8 = cB s 8 := cB_cg 8 x2
  have up : ∀ T, w ≤ fH (adjN N no) 8 np (opB N no) T := fun T => by
    rcases h3 with h3 | ⟨y, y1, y2, y3⟩
    · omega
    · have m1 := (poF_t hno np y y1).mp y2
      have sub : ∀ k, k < 8 → y.testBit k = true → opB N no k = true := fun k hk e => by
        obtain ⟨q, -, hq⟩ := m1.ad k hk e
        obtain ⟨b1, b2, -⟩ := adj_t.mp hq
        exact decide_eq_true ⟨b1, b2⟩
      have := mt_up sub m1 T
      omega
  refine ⟨w, h1, h2, ⟨T, ?_⟩, up⟩
  have := up T
  omega
