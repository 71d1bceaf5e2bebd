/-! ===== pure: as many orders can be filled as Hall's count says (abstract) ===== -/
theorem cB_cg {P Q : Nat → Bool} : ∀ n, (∀ i, i < n → P i = Q i) → cB P n = cB Q n
  | 0, _ => rfl
  | n + 1, h => by rw [cB_s, cB_s, cB_cg n (fun i hi => h i (by omega)), h n (by omega)]
theorem cB_0 {P : Nat → Bool} : ∀ n, (∀ i, i < n → P i = false) → cB P n = 0
  | 0, _ => rfl
  | n + 1, h => by rw [cB_s, cB_0 n (fun i hi => h i (by omega)), h n (by omega)]; rfl
theorem cB_sp (s T : Nat → Bool) : ∀ n, cB s n = cB (fun k => s k && T k) n + cB (fun k => s k && !T k) n
  | 0 => rfl
  | n + 1 => by
    rw [cB_s, cB_s, cB_s, cB_sp s T n]
    cases s n <;> cases T n <;> simp <;> omega
theorem cB_rm {s : Nat → Bool} {o : Nat} (h : s o = true) : ∀ n, o < n → cB s n = cB (fun k => s k && !decide (k = o)) n + 1
  | 0, ho => absurd ho (Nat.not_lt_zero o)
  | n + 1, ho => by
    rw [cB_s, cB_s]
    by_cases e : o = n
    · subst e
      rw [cB_cg (P := s) (Q := fun k => s k && !decide (k = o)) o (fun i hi => by rw [decide_eq_false (show ¬ i = o by omega)]; simp)]
      rw [h]
      simp
    · rw [cB_rm h n (by omega), decide_eq_false (show ¬ n = o from fun z => e z.symm)]
      simp only [Bool.not_false, Bool.and_true]
      omega
def anyB (P : Nat → Bool) : Nat → Bool
  | 0 => false
  | n + 1 => anyB P n || P n
theorem anyB_t {P : Nat → Bool} : ∀ {n : Nat}, anyB P n = true ↔ ∃ o, o < n ∧ P o = true
  | 0 => ⟨fun h => (by cases h), fun ⟨o, h, _⟩ => absurd h (Nat.not_lt_zero o)⟩
  | n + 1 => by
    show (anyB P n || P n) = true ↔ _
    rw [Bool.or_eq_true, anyB_t]
    constructor
    · rintro (⟨o, h1, h2⟩ | h)
      · exact ⟨o, by omega, h2⟩
      · exact ⟨n, by omega, h⟩
    · rintro ⟨o, h1, h2⟩
      rcases Nat.lt_or_ge o n with z | z
      · exact Or.inl ⟨o, z, h2⟩
      · rw [show n = o by omega]; exact Or.inr h2
section HALL
variable (adj : Nat → Nat → Bool) (m : Nat)
/-- pot q is good for an order of T -/
def nbB (T : Nat → Bool) (q : Nat) : Bool := anyB (fun o => T o && adj q o) m
/-- how many pots below p are -/
def nbN (p : Nat) (T : Nat → Bool) : Nat := cB (nbB adj m T) p
/-- the orders of s can be filled out of the pots below p -/
def Mt : Nat → (Nat → Bool) → Prop
  | 0, s => ∀ o, o < m → s o = false
  | p + 1, s => Mt p s ∨ ∃ o, o < m ∧ s o = true ∧ adj p o = true ∧ Mt p (fun k => s k && !decide (k = o))
variable {adj m}
theorem nb_t {T : Nat → Bool} {q : Nat} : nbB adj m T q = true ↔ ∃ o, o < m ∧ T o = true ∧ adj q o = true := by
  unfold nbB
  rw [anyB_t]
  constructor
  · rintro ⟨o, h, h2⟩; exact ⟨o, h, by simpa using h2⟩
  · rintro ⟨o, h, h2⟩; exact ⟨o, h, by simpa using h2⟩
theorem nb_mo {T U : Nat → Bool} {q : Nat} (h : ∀ o, o < m → T o = true → U o = true) (k : nbB adj m T q = true) : nbB adj m U q = true := by
  obtain ⟨o, h1, h2, h3⟩ := nb_t.mp k
  exact nb_t.mpr ⟨o, h1, h o h1 h2, h3⟩
theorem nbN_mo {T U : Nat → Bool} {p : Nat} (h : ∀ o, o < m → T o = true → U o = true) : nbN adj m p T ≤ nbN adj m p U := cB_mo p (fun q _ k => nb_mo h k)
theorem nbN_s {T : Nat → Bool} {p : Nat} : nbN adj m (p + 1) T = nbN adj m p T + (if nbB adj m T p = true then 1 else 0) := rfl
theorem Mt.cg : ∀ {p : Nat} {s s' : Nat → Bool}, (∀ k, k < m → s k = s' k) → Mt adj m p s → Mt adj m p s'
  | 0, s, s', h, k => fun o ho => by rw [← h o ho]; exact k o ho
  | p + 1, s, s', h, k => by
    rcases k with k | ⟨o, h1, h2, h3, h4⟩
    · exact Or.inl (k.cg h)
    · exact Or.inr ⟨o, h1, by rw [← h o h1]; exact h2, h3, h4.cg (fun k hk => by rw [h k hk])⟩
theorem Mt.ad : ∀ {p : Nat} {s : Nat → Bool}, Mt adj m p s → ∀ k, k < m → s k = true → ∃ q, q < p ∧ adj q k = true
  | 0, s, h, k, hk, e => by rw [h k hk] at e; cases e
  | p + 1, s, h, k, hk, e => by
    rcases h with h | ⟨o, h1, h2, h3, h4⟩
    · obtain ⟨q, a, b⟩ := h.ad k hk e
      exact ⟨q, by omega, b⟩
    · by_cases z : k = o
      · subst z; exact ⟨p, by omega, h3⟩
      · obtain ⟨q, a, b⟩ := h4.ad k hk (by rw [e, decide_eq_false z]; rfl)
        exact ⟨q, by omega, b⟩
theorem mt_le : ∀ {p : Nat} {s : Nat → Bool}, Mt adj m p s → ∀ T, cB (fun k => s k && T k) m ≤ nbN adj m p T
  | 0, s, h, T => by rw [cB_0 m (fun i hi => by rw [h i hi]; rfl)]; exact Nat.zero_le _
  | p + 1, s, h, T => by
    rw [nbN_s]
    rcases h with h | ⟨o, h1, h2, h3, h4⟩
    · have := mt_le h T; omega
    · have h5 := mt_le h4 T
      by_cases z : T o = true
      · rw [if_pos (nb_t.mpr ⟨o, h1, z, h3⟩)]
        rw [cB_rm (s := fun k => s k && T k) (o := o) (by rw [h2, z]; rfl) m h1]
        rw [cB_cg (P := fun k => s k && T k && !decide (k = o)) (Q := fun k => s k && !decide (k = o) && T k) m (fun i _ => by cases s i <;> cases T i <;> simp)]
        omega
      · rw [cB_cg (P := fun k => s k && T k) (Q := fun k => s k && !decide (k = o) && T k) m (fun i _ => by
          by_cases y : i = o
          · subst y
            rw [show T i = false by simpa using z]
            simp
          · rw [decide_eq_false y]; simp)]
        omega
/-- what a set of orders leaves open and can fill -/
def fH (adj : Nat → Nat → Bool) (m p : Nat) (S T : Nat → Bool) : Nat := cB (fun k => S k && !T k) m + nbN adj m p T
theorem mt_up {p : Nat} {S s : Nat → Bool} (hs : ∀ k, k < m → s k = true → S k = true) (h : Mt adj m p s) (T : Nat → Bool) : cB s m ≤ fH adj m p S T := by
  have h1 := mt_le h T
  have h2 := cB_sp s T m
  have h3 : cB (fun k => s k && !T k) m ≤ cB (fun k => S k && !T k) m := cB_mo m (fun i hi e => by
    simp only [Bool.and_eq_true] at e ⊢
    exact ⟨hs i hi e.1, e.2⟩)
  unfold fH
  omega
theorem cB_2 {a b c d : Nat → Bool} : ∀ n, (∀ i, i < n → (if c i = true then 1 else 0) + (if d i = true then 1 else 0) ≤ (if a i = true then 1 else 0) + (if b i = true then 1 else (0 : Nat))) → cB c n + cB d n ≤ cB a n + cB b n
  | 0, _ => Nat.le_refl _
  | n + 1, h => by
    have h1 := cB_2 n (fun i hi => h i (by omega))
    have h2 := h n (by omega)
    rw [cB_s, cB_s, cB_s, cB_s]
    omega
theorem fH_sub (p : Nat) (S T U : Nat → Bool) : fH adj m p S (fun k => T k && U k) + fH adj m p S (fun k => T k || U k) ≤ fH adj m p S T + fH adj m p S U := by
  have h1 : cB (fun k => S k && !(T k && U k)) m + cB (fun k => S k && !(T k || U k)) m ≤ cB (fun k => S k && !T k) m + cB (fun k => S k && !U k) m := cB_2 m (fun i _ => by
    cases S i <;> cases T i <;> cases U i <;> simp)
  have h2 : nbN adj m p (fun k => T k && U k) + nbN adj m p (fun k => T k || U k) ≤ nbN adj m p T + nbN adj m p U := cB_2 p (fun q _ => by
    have a1 : nbB adj m (fun k => T k && U k) q = true → nbB adj m T q = true := nb_mo (fun o _ h => by simp only [Bool.and_eq_true] at h; exact h.1)
    have a2 : nbB adj m (fun k => T k && U k) q = true → nbB adj m U q = true := nb_mo (fun o _ h => by simp only [Bool.and_eq_true] at h; exact h.2)
    have a3 : nbB adj m (fun k => T k || U k) q = true → nbB adj m T q = true ∨ nbB adj m U q = true := fun h => by
      obtain ⟨o, h1, h2, h3⟩ := nb_t.mp h
      simp only [Bool.or_eq_true] at h2
      rcases h2 with h2 | h2
      · exact Or.inl (nb_t.mpr ⟨o, h1, h2, h3⟩)
      · exact Or.inr (nb_t.mpr ⟨o, h1, h2, h3⟩)
    by_cases b1 : nbB adj m T q = true <;> by_cases b2 : nbB adj m U q = true
    · rw [if_pos b1, if_pos b2]; split <;> split <;> omega
    · rw [if_pos b1, if_neg b2, if_neg (fun z => b2 (a2 z))]; split <;> omega
    · rw [if_neg b1, if_pos b2, if_neg (fun z => b1 (a1 z))]; split <;> omega
    · rw [if_neg b1, if_neg b2, if_neg (fun z => b1 (a1 z)), if_neg (fun z => (a3 z).elim b1 b2)]; omega)
  show cB (fun k => S k && !(T k && U k)) m + nbN adj m p (fun k => T k && U k) + (cB (fun k => S k && !(T k || U k)) m + nbN adj m p (fun k => T k || U k)) ≤ cB (fun k => S k && !T k) m + nbN adj m p T + (cB (fun k => S k && !U k) m + nbN adj m p U)
  omega
theorem hall : ∀ (p : Nat) (S : Nat → Bool), ∃ s, (∀ k, k < m → s k = true → S k = true) ∧ Mt adj m p s ∧ ∃ T, cB s m = fH adj m p S T
  | 0, S => ⟨fun _ => false, fun k _ h => (by cases h), fun o _ => rfl, S, by
      unfold fH
      rw [cB_0 (P := fun _ => false) m (fun _ _ => rfl), cB_0 (P := fun k => S k && !S k) m (fun i _ => by cases S i <;> rfl)]
      rfl⟩
  | p + 1, S => by
    obtain ⟨s, hs, hM, T0, h0⟩ := hall p S
    by_cases A : ∃ T, fH adj m (p + 1) S T ≤ cB s m
    · obtain ⟨T, hT⟩ := A
      refine ⟨s, hs, Or.inl hM, T, ?_⟩
      have h1 := mt_up (adj := adj) (p := p + 1) hs (Or.inl hM) T
      omega
    · have B : ∀ T, cB s m + 1 ≤ fH adj m (p + 1) S T := fun T => by
        have : ¬ fH adj m (p + 1) S T ≤ cB s m := fun z => A ⟨T, z⟩
        omega
      have st : ∀ T, fH adj m (p + 1) S T = fH adj m p S T + (if nbB adj m T p = true then 1 else 0) := fun T => by
        unfold fH
        rw [nbN_s]
        omega
      have hT0 : fH adj m (p + 1) S T0 = cB s m + 1 := by
        have h1 := B T0
        have h2 := st T0
        have h3 : (if nbB adj m T0 p = true then 1 else 0) ≤ 1 := by split <;> omega
        omega
      -- an order that can wait for the new pot
      have key : ∃ o, o < m ∧ S o = true ∧ adj p o = true ∧ ∃ s', (∀ k, k < m → s' k = true → (S k && !decide (k = o)) = true) ∧ Mt adj m p s' ∧ cB s m ≤ cB s' m := by
        refine Classical.byContradiction fun no => ?_
        have tight : ∀ o, o < m → S o = true → adj p o = true → ∃ U : Nat → Bool, fH adj m p S U ≤ cB s m ∧ U o = false := fun o ho hS ha => by
          obtain ⟨s', a1, a2, T, a3⟩ := hall p (fun k => S k && !decide (k = o))
          have hlt : cB s' m < cB s m := Nat.not_le.mp (fun z => no ⟨o, ho, hS, ha, s', a1, a2, z⟩)
          refine ⟨fun k => T k && !decide (k = o), ?_, by show (T o && !decide (o = o)) = false; simp⟩
          have e1 : nbN adj m p (fun k => T k && !decide (k = o)) ≤ nbN adj m p T := nbN_mo (fun k _ h => by simp only [Bool.and_eq_true] at h; exact h.1)
          have e2 : cB (fun k => S k && !(T k && !decide (k = o))) m = cB (fun k => S k && !decide (k = o) && !T k) m + 1 := by
            rw [cB_rm (s := fun k => S k && !(T k && !decide (k = o))) (o := o) (by show (S o && !(T o && !decide (o = o))) = true; rw [hS]; simp) m ho]
            rw [cB_cg (P := fun k => S k && !(T k && !decide (k = o)) && !decide (k = o)) (Q := fun k => S k && !decide (k = o) && !T k) m (fun i _ => by cases S i <;> cases T i <;> cases decide (i = o) <;> rfl)]
          have u1 : fH adj m p S (fun k => T k && !decide (k = o)) = cB (fun k => S k && !(T k && !decide (k = o))) m + nbN adj m p (fun k => T k && !decide (k = o)) := rfl
          have u2 : fH adj m p (fun k => S k && !decide (k = o)) T = cB (fun k => S k && !decide (k = o) && !T k) m + nbN adj m p T := rfl
          omega
        have build : ∀ n, n ≤ m → ∃ U : Nat → Bool, fH adj m p S U ≤ cB s m ∧ ∀ o, o < n → S o = true → adj p o = true → U o = false := by
          intro n
          induction n with
          | zero => exact fun _ => ⟨T0, by omega, fun o ho => absurd ho (Nat.not_lt_zero o)⟩
          | succ n ih =>
            intro hn
            obtain ⟨U, h1, h2⟩ := ih (by omega)
            by_cases q : S n = true ∧ adj p n = true
            · obtain ⟨V, v1, v2⟩ := tight n (by omega) q.1 q.2
              have sb := fH_sub (adj := adj) (m := m) p S U V
              have up := mt_up (adj := adj) (p := p) hs hM (fun k => U k || V k)
              refine ⟨fun k => U k && V k, by omega, fun o ho hS ha => ?_⟩
              rcases Nat.lt_or_ge o n with z | z
              · show (U o && V o) = false
                rw [h2 o z hS ha]; rfl
              · rw [show o = n by omega]
                show (U n && V n) = false
                rw [v2]; simp
            · refine ⟨U, h1, fun o ho hS ha => ?_⟩
              rcases Nat.lt_or_ge o n with z | z
              · exact h2 o z hS ha
              · rw [show o = n by omega] at hS ha
                exact absurd ⟨hS, ha⟩ q
        obtain ⟨U, h1, h2⟩ := build m (Nat.le_refl m)
        have e1 : nbN adj m p (fun k => U k && S k) ≤ nbN adj m p U := nbN_mo (fun k _ h => by simp only [Bool.and_eq_true] at h; exact h.1)
        have e2 : cB (fun k => S k && !(U k && S k)) m = cB (fun k => S k && !U k) m := cB_cg m (fun i _ => by cases S i <;> cases U i <;> rfl)
        have e3 : ¬ nbB adj m (fun k => U k && S k) p = true := fun z => by
          obtain ⟨o, c1, c2, c3⟩ := nb_t.mp z
          simp only [Bool.and_eq_true] at c2
          have c4 := h2 o c1 c2.2 c3
          rw [c2.1] at c4
          cases c4
        have e4 := st (fun k => U k && S k)
        rw [if_neg e3] at e4
        have e5 := B (fun k => U k && S k)
        have u1 : fH adj m p S (fun k => U k && S k) = cB (fun k => S k && !(U k && S k)) m + nbN adj m p (fun k => U k && S k) := rfl
        have u2 : fH adj m p S U = cB (fun k => S k && !U k) m + nbN adj m p U := rfl
        omega
      obtain ⟨o, ho, hS, ha, s', a1, a2, a3⟩ := key
      have so : s' o = false := Bool.eq_false_iff.mpr (fun z => by
        have := a1 o ho z
        simp at this)
      have M2 : Mt adj m (p + 1) (fun k => s' k || decide (k = o)) := Or.inr ⟨o, ho, by show (s' o || decide (o = o)) = true; simp, ha, a2.cg (fun k _ => by
        show s' k = ((s' k || decide (k = o)) && !decide (k = o))
        by_cases z : k = o
        · subst z; rw [so]; simp
        · rw [decide_eq_false z]; simp)⟩
      have sub2 : ∀ k, k < m → (s' k || decide (k = o)) = true → S k = true := fun k hk e => by
        by_cases z : k = o
        · subst z; exact hS
        · rw [decide_eq_false z, Bool.or_false] at e
          have := a1 k hk e
          simp only [Bool.and_eq_true] at this
          exact this.1
      have c1 : cB (fun k => s' k || decide (k = o)) m = cB s' m + 1 := by
        rw [cB_rm (s := fun k => s' k || decide (k = o)) (o := o) (by show (s' o || decide (o = o)) = true; simp) m ho]
        rw [cB_cg (P := fun k => (s' k || decide (k = o)) && !decide (k = o)) (Q := s') m (fun i _ => by
          show ((s' i || decide (i = o)) && !decide (i = o)) = s' i
          by_cases z : i = o
          · subst z; rw [so]; simp
          · rw [decide_eq_false z]; simp)]
      refine ⟨fun k => s' k || decide (k = o), sub2, M2, T0, ?_⟩
      have up := mt_up sub2 M2 T0
      omega
end HALL
