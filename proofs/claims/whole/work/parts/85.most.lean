/-! ===== pure: the class's way to the most orders that can be filled ===== -/
theorem cB_ext {P : Nat → Bool} {a : Nat} (h : ∀ i, a ≤ i → P i = false) : ∀ d, cB P (a + d) = cB P a
  | 0 => rfl
  | d + 1 => by
    show cB P (a + d) + (if P (a + d) = true then 1 else 0) = cB P a
    rw [cB_ext h d, h (a + d) (by omega)]
    rfl
theorem cB_ex {P : Nat → Bool} {a n : Nat} (hn : a ≤ n) (h : ∀ i, a ≤ i → P i = false) : cB P n = cB P a := by
  have := cB_ext h (n - a)
  rw [show a + (n - a) = n by omega] at this
  exact this
theorem cB_not (P : Nat → Bool) : ∀ n, cB (fun k => !P k) n + cB P n = n
  | 0 => rfl
  | n + 1 => by
    have := cB_not P n
    rw [cB_s, cB_s]
    cases P n <;> simp <;> omega
def As (N : Nat → Int32) (np j : Nat) : Nat := orM (fun i => if goodN N i j = 0 then 0 else 2 ^ i) np
theorem sl_t : ∀ i, i < 16 → (1 : Int32) <<< (nI i &&& 31) = nI (2 ^ i) ∧ 2 ^ i < 2 ^ 16 := by decide +kernel
theorem allN_e {N : Nat → Int32} {np : Nat} (hnp : np ≤ 16) (j : Nat) : allN N j np = nI (As N np j) := orF_M np (fun k hk => by
  show (if goodN N k j = 0 then (0 : Int32) else (1 : Int32) <<< (nI k &&& 31)) = nI (if goodN N k j = 0 then 0 else 2 ^ k)
  by_cases q : goodN N k j = 0
  · rw [if_pos q, if_pos q]; rfl
  · rw [if_neg q, if_neg q]; exact (sl_t k (by omega)).1)
theorem As_b {N : Nat → Int32} {np j q : Nat} : (As N np j).testBit q = true ↔ q < np ∧ ¬ goodN N q j = 0 := by
  unfold As
  rw [orM_b]
  constructor
  · rintro ⟨k, h1, h2⟩
    by_cases z : goodN N k j = 0
    · rw [if_pos z, Nat.zero_testBit] at h2; cases h2
    · rw [if_neg z, Nat.testBit_two_pow] at h2
      have e := of_decide_eq_true h2
      subst e
      exact ⟨h1, z⟩
  · rintro ⟨h1, h2⟩
    exact ⟨q, h1, by rw [if_neg h2, Nat.testBit_two_pow]; exact decide_eq_true rfl⟩
theorem As_lt {N : Nat → Int32} {np : Nat} (hnp : np ≤ 16) (j : Nat) : As N np j < 2 ^ 16 := orM_lt np (fun k hk => by
  split
  · exact Nat.two_pow_pos 16
  · exact (sl_t k (by omega)).2)
theorem sold_4 {x : Int32} : soldK x = 0 ↔ x = -4 := ⟨soldK_0, fun h => by rw [h]; rfl⟩
theorem opN_s (N : Nat → Int32) (i : Nat) : opN N (i + 1) = if soldK (N (191 + 5 * i)) = 0 then opN N i + 1 else opN N i := rfl
theorem gpN_s (N : Nat → Int32) (np : Nat) (g : Nat → Int32) (i : Nat) : gpN N np g (i + 1) = if soldK (N (191 + 5 * i)) = 0 then upd (gpN N np g i) (opN N i) (allN N i np) else gpN N np g i := rfl
theorem gpN_i {N : Nat → Int32} {np : Nat} {g : Nat → Int32} : ∀ n o, o < n → soldK (N (191 + 5 * o)) = 0 → gpN N np g n (opN N o) = allN N o np ∧ opN N o < opN N n
  | 0, o, ho, _ => absurd ho (Nat.not_lt_zero o)
  | n + 1, o, ho, hq => by
    rw [gpN_s, opN_s]
    by_cases e : o = n
    · subst e
      rw [if_pos hq, if_pos hq]
      exact ⟨if_pos rfl, by omega⟩
    · obtain ⟨h1, h2⟩ := gpN_i (np := np) (g := g) n o (by omega) hq
      by_cases z : soldK (N (191 + 5 * n)) = 0
      · rw [if_pos z, if_pos z, upd_ne (by omega)]
        exact ⟨h1, by omega⟩
      · rw [if_neg z, if_neg z]
        exact ⟨h1, h2⟩
theorem opN_sj {N : Nat → Int32} : ∀ n k, k < opN N n → ∃ o, o < n ∧ soldK (N (191 + 5 * o)) = 0 ∧ opN N o = k
  | 0, k, h => absurd h (Nat.not_lt_zero k)
  | n + 1, k, h => by
    rw [opN_s] at h
    by_cases z : soldK (N (191 + 5 * n)) = 0
    · rw [if_pos z] at h
      by_cases e : k = opN N n
      · exact ⟨n, by omega, z, e.symm⟩
      · obtain ⟨o, h1, h2⟩ := opN_sj (N := N) n k (by omega)
        exact ⟨o, by omega, h2⟩
    · rw [if_neg z] at h
      obtain ⟨o, h1, h2⟩ := opN_sj n k h
      exact ⟨o, by omega, h2⟩
theorem opB_t {N : Nat → Int32} {no o : Nat} : opB N no o = true ↔ o < no ∧ N (191 + 5 * o) = -4 := by unfold opB; exact decide_eq_true_iff
theorem cB_open {N : Nat → Int32} {no : Nat} (P : Nat → Bool) : ∀ n, n ≤ no → cB (fun o => opB N no o && P (opN N o)) n = cB P (opN N n)
  | 0, _ => rfl
  | n + 1, hn => by
    rw [cB_s, cB_open P n (by omega), opN_s]
    by_cases z : soldK (N (191 + 5 * n)) = 0
    · rw [opB_t.mpr ⟨by omega, soldK_0 z⟩, if_pos z, cB_s, Bool.true_and]
    · rw [if_neg z, Bool.eq_false_iff.mpr (fun y => z (sold_4.mpr (opB_t.mp y).2))]
      simp
section MOST
variable {N : Nat → Int32} {no np : Nat} {g0 : Nat → Int32}
/-- the set of pots that are good for the k-th open order -/
def Gk (N : Nat → Int32) (np : Nat) (g0 : Nat → Int32) (no k : Nat) : Nat := kOf (gpN N np g0 no k)
theorem Gk_e (hnp : np ≤ 16) {o : Nat} (ho : o < no) (hq : soldK (N (191 + 5 * o)) = 0) : Gk N np g0 no (opN N o) = As N np o ∧ gpN N np g0 no (opN N o) = nI (As N np o) := by
  have h := (gpN_i (np := np) (g := g0) no o ho hq).1
  have l := As_lt (N := N) hnp o
  unfold Gk
  rw [h, allN_e hnp]
  exact ⟨kOf_nI (by omega), rfl⟩
theorem Gk_k (hnp : np ≤ 16) {k : Nat} (hk : k < opN N no) : gpN N np g0 no k = nI (Gk N np g0 no k) ∧ Gk N np g0 no k < 2 ^ 16 := by
  obtain ⟨o, h1, h2, rfl⟩ := opN_sj no k hk
  obtain ⟨e1, e2⟩ := Gk_e (g0 := g0) hnp h1 h2
  rw [e1, e2]
  exact ⟨rfl, As_lt hnp o⟩
def Bt (N : Nat → Int32) (np : Nat) (g0 : Nat → Int32) (no t : Nat) : Nat := orM (fun k => if t.testBit k = true then Gk N np g0 no k else 0) (opN N no)
def Vt (N : Nat → Int32) (np : Nat) (g0 : Nat → Int32) (no t : Nat) : Nat := opN N no - cB t.testBit (opN N no) + cB (Bt N np g0 no t).testBit 16
theorem Bt_lt (hnp : np ≤ 16) (t : Nat) : Bt N np g0 no t < 2 ^ 16 := orM_lt _ (fun k hk => by
  split
  · exact (Gk_k hnp hk).2
  · exact Nat.two_pow_pos 16)
theorem Bt_b (hnp : np ≤ 16) {t q : Nat} : (Bt N np g0 no t).testBit q = true ↔ ∃ o, o < no ∧ N (191 + 5 * o) = -4 ∧ t.testBit (opN N o) = true ∧ q < np ∧ ¬ goodN N q o = 0 := by
  unfold Bt
  rw [orM_b]
  constructor
  · rintro ⟨k, h1, h2⟩
    obtain ⟨o, a1, a2, rfl⟩ := opN_sj no k h1
    by_cases z : t.testBit (opN N o) = true
    · rw [if_pos z, (Gk_e (g0 := g0) hnp a1 a2).1] at h2
      exact ⟨o, a1, soldK_0 a2, z, As_b.mp h2⟩
    · rw [if_neg z, Nat.zero_testBit] at h2; cases h2
  · rintro ⟨o, a1, a2, a3, a4⟩
    have a5 := sold_4.mpr a2
    refine ⟨opN N o, (gpN_i (np := np) (g := g0) no o a1 a5).2, ?_⟩
    rw [if_pos a3, (Gk_e (g0 := g0) hnp a1 a5).1]
    exact As_b.mpr a4
theorem selN_e (hno : no ≤ 8) (hnp : np ≤ 16) {t : Nat} (ht : t < 256) : selN (gpN N np g0 no) (nI t) (opN N no) = nI (Bt N np g0 no t) := by
  have hle := opN_le N no
  refine orF_M _ (fun k hk => ?_)
  show (if (nI t >>> (nI k &&& 31)) &&& 1 = 1 then gpN N np g0 no k else 0) = nI (if t.testBit k = true then Gk N np g0 no k else 0)
  by_cases q : t.testBit k = true
  · rw [if_pos q, if_pos ((bit_1 (by omega) (by omega)).mpr q)]
    exact (Gk_k hnp hk).1
  · rw [if_neg q, if_neg (fun z => q ((bit_1 (by omega) (by omega)).mp z))]; rfl
theorem pw_le {a b : Nat} (h : a ≤ b) : 2 ^ a ≤ 2 ^ b := Nat.pow_le_pow_right (by omega) h
theorem mfN_s (g : Nat → Int32) (m s : Nat) : mfN g m (s + 1) = mn (mfN g m s) (nI m - bcI (nI (s + 1)) + bcI (selN g (nI (s + 1)) m)) := rfl
theorem mfN_min (hno : no ≤ 8) (hnp : np ≤ 16) : ∀ n, n < 2 ^ opN N no → ∃ w, w ≤ 24 ∧ mfN (gpN N np g0 no) (opN N no) n = nI w ∧ (∃ t, t ≤ n ∧ w = Vt N np g0 no t) ∧ ∀ t, t ≤ n → w ≤ Vt N np g0 no t
  | 0, _ => by
    have hle := opN_le N no
    have v0 : Vt N np g0 no 0 = opN N no := by
      unfold Vt
      rw [cB_0 (P := (0 : Nat).testBit) _ (fun i _ => Nat.zero_testBit i)]
      rw [cB_0 (P := (Bt N np g0 no 0).testBit) 16 (fun i _ => Bool.eq_false_iff.mpr (fun z => by
        obtain ⟨o, -, -, h, -⟩ := (Bt_b hnp).mp z
        rw [Nat.zero_testBit] at h
        cases h))]
      omega
    exact ⟨opN N no, by omega, rfl, ⟨0, Nat.le_refl 0, v0.symm⟩, fun t ht => by rw [show t = 0 by omega, v0]; exact Nat.le_refl _⟩
  | s + 1, hs => by
    have hle := opN_le N no
    have hp : 2 ^ opN N no ≤ 2 ^ 8 := pw_le (by omega)
    obtain ⟨w, h0, h1, ⟨t, h2, h3⟩, h4⟩ := mfN_min hno hnp s (by omega)
    have hs256 : s + 1 < 256 := by omega
    have hb := Bt_lt (N := N) (np := np) (g0 := g0) (no := no) hnp (s + 1)
    have c1 : cB (s + 1).testBit 16 = cB (s + 1).testBit (opN N no) := cB_ex (by omega) (fun i hi => Nat.testBit_lt_two_pow (Nat.lt_of_lt_of_le hs (pw_le hi)))
    have c2 := cB_le (s + 1).testBit (opN N no)
    have c3 := cB_le (Bt N np g0 no (s + 1)).testBit 16
    have e : nI (opN N no) - bcI (nI (s + 1)) + bcI (selN (gpN N np g0 no) (nI (s + 1)) (opN N no)) = nI (Vt N np g0 no (s + 1)) := by
      rw [selN_e hno hnp hs256, bcI_e (by omega), bcI_e (by omega), c1, nI_sub' c2, nI_add]
      rfl
    have hV : Vt N np g0 no (s + 1) ≤ 24 := by unfold Vt; omega
    rw [mfN_s, h1, e]
    unfold mn
    by_cases q : Vt N np g0 no (s + 1) < w
    · rw [if_pos (nI_lt q (by omega))]
      refine ⟨_, hV, rfl, ⟨s + 1, Nat.le_refl _, rfl⟩, fun t ht => ?_⟩
      rcases Nat.lt_or_ge t (s + 1) with z | z
      · have := h4 t (by omega); omega
      · rw [show t = s + 1 by omega]; exact Nat.le_refl _
    · rw [if_neg (nI_nlt (by omega) (by omega))]
      refine ⟨w, h0, rfl, ⟨t, by omega, h3⟩, fun t ht => ?_⟩
      rcases Nat.lt_or_ge t (s + 1) with z | z
      · exact h4 t (by omega)
      · rw [show t = s + 1 by omega]; omega
theorem Vt_f (hno : no ≤ 8) (hnp : np ≤ 16) (t : Nat) : fH (adjN N no) 8 np (opB N no) (fun o => opB N no o && t.testBit (opN N o)) = Vt N np g0 no t := by
  have hle := opN_le N no
  have ob : ∀ i, no ≤ i → opB N no i = false := fun i hi => Bool.eq_false_iff.mpr (fun z => by have := (opB_t.mp z).1; omega)
  have e1 : cB (fun k => opB N no k && !(opB N no k && t.testBit (opN N k))) 8 = opN N no - cB t.testBit (opN N no) := by
    rw [cB_ex (P := fun k => opB N no k && !(opB N no k && t.testBit (opN N k))) (a := no) hno (fun i hi => by rw [ob i hi]; rfl)]
    rw [cB_cg (P := fun k => opB N no k && !(opB N no k && t.testBit (opN N k))) (Q := fun k => opB N no k && (fun j => !t.testBit j) (opN N k)) no (fun i _ => by cases opB N no i <;> simp)]
    rw [cB_open (fun j => !t.testBit j) no (Nat.le_refl no)]
    have := cB_not t.testBit (opN N no)
    omega
  have e2 : nbN (adjN N no) 8 np (fun o => opB N no o && t.testBit (opN N o)) = cB (Bt N np g0 no t).testBit 16 := by
    rw [cB_ex (P := (Bt N np g0 no t).testBit) (a := np) hnp (fun i hi => Bool.eq_false_iff.mpr (fun z => by
      obtain ⟨o, -, -, -, h, -⟩ := (Bt_b hnp).mp z
      omega))]
    refine cB_cg np (fun q hq => ?_)
    have iff1 : nbB (adjN N no) 8 (fun o => opB N no o && t.testBit (opN N o)) q = true ↔ (Bt N np g0 no t).testBit q = true := by
      rw [nb_t, Bt_b hnp]
      constructor
      · rintro ⟨o, h1, h2, h3⟩
        obtain ⟨a1, a2, a3⟩ := adj_t.mp h3
        simp only [Bool.and_eq_true] at h2
        exact ⟨o, a1, a2, h2.2, hq, a3⟩
      · rintro ⟨o, a1, a2, a3, a4, a5⟩
        exact ⟨o, by omega, by simp only [Bool.and_eq_true]; exact ⟨opB_t.mpr ⟨a1, a2⟩, a3⟩, adj_t.mpr ⟨a1, a2, a5⟩⟩
    cases h1 : nbB (adjN N no) 8 (fun o => opB N no o && t.testBit (opN N o)) q with
    | true => exact (iff1.mp h1).symm
    | false => exact (Bool.eq_false_iff.mpr (fun z => by rw [iff1.mpr z] at h1; cases h1)).symm
  show cB (fun k => opB N no k && !(opB N no k && t.testBit (opN N k))) 8 + nbN (adjN N no) 8 np (fun o => opB N no o && t.testBit (opN N o)) = Vt N np g0 no t
  rw [e1, e2]
  rfl
theorem filled_e {c : Nat → Int32} (hno : no ≤ 8) (hnp : np ≤ 16) : mfN (gpN N np g0 no) (opN N no) (2 ^ opN N no - 1) = mfM (poF N no c np) 256 := by
  obtain ⟨w, h1, h2, ⟨T, h3⟩, h4⟩ := modelMost (N := N) (no := no) (np := np) (c := c) hno
  have hp := Nat.two_pow_pos (opN N no)
  obtain ⟨v, k0, k1, ⟨t, k2, k3⟩, k4⟩ := mfN_min (N := N) (no := no) (np := np) (g0 := g0) hno hnp (2 ^ opN N no - 1) (by omega)
  rw [h2, k1]
  congr 1
  have up : w ≤ v := by
    rw [k3, ← Vt_f hno hnp t]
    exact h4 _
  obtain ⟨x, x1, x2⟩ := set_n (fun k => anyB (fun o => opB N no o && decide (opN N o = k) && T o) no) (opN N no)
  have xT : ∀ o, o < no → N (191 + 5 * o) = -4 → x.testBit (opN N o) = T o := fun o ho hq => by
    have hq2 := sold_4.mpr hq
    rw [x2 _ (gpN_i (np := np) (g := g0) no o ho hq2).2]
    cases hT : T o with
    | true => exact anyB_t.mpr ⟨o, ho, by rw [opB_t.mpr ⟨ho, hq⟩, hT]; simp⟩
    | false =>
      refine Bool.eq_false_iff.mpr (fun z => ?_)
      obtain ⟨o2, a1, a2⟩ := anyB_t.mp z
      simp only [Bool.and_eq_true, decide_eq_true_eq] at a2
      obtain ⟨⟨b1, b2⟩, b3⟩ := a2
      have b4 := sold_4.mpr (opB_t.mp b1).2
      have e : o2 = o := by
        rcases Nat.lt_trichotomy o2 o with y | y | y
        · have := (gpN_i (np := np) (g := g0) o o2 y b4).2; omega
        · exact y
        · have := (gpN_i (np := np) (g := g0) o2 o y hq2).2; omega
      rw [e, hT] at b3
      cases b3
  have low : v ≤ w := by
    have l1 := k4 x (by omega)
    rw [← Vt_f hno hnp x] at l1
    have l2 : fH (adjN N no) 8 np (opB N no) (fun o => opB N no o && x.testBit (opN N o)) ≤ fH (adjN N no) 8 np (opB N no) T := by
      have e1 : cB (fun k => opB N no k && !(opB N no k && x.testBit (opN N k))) 8 = cB (fun k => opB N no k && !T k) 8 := cB_cg 8 (fun i _ => by
        cases hi : opB N no i with
        | false => rfl
        | true =>
          obtain ⟨a1, a2⟩ := opB_t.mp hi
          rw [xT i a1 a2]
          rfl)
      have e2 : nbN (adjN N no) 8 np (fun o => opB N no o && x.testBit (opN N o)) ≤ nbN (adjN N no) 8 np T := nbN_mo (fun o _ h => by
        simp only [Bool.and_eq_true] at h
        obtain ⟨a1, a2⟩ := opB_t.mp h.1
        rw [← xT o a1 a2]
        exact h.2)
      show cB (fun k => opB N no k && !(opB N no k && x.testBit (opN N k))) 8 + nbN (adjN N no) 8 np (fun o => opB N no o && x.testBit (opN N o)) ≤ cB (fun k => opB N no k && !T k) 8 + nbN (adjN N no) 8 np T
      omega
    omega
  omega
end MOST
