/-! ===== a shop's cells, one by one ===== -/
/-- the places of a shop's block that are used -/
def okI (i : Nat) : Prop := i < 5 ∨ (10 ≤ i ∧ i < 22) ∨ (30 ≤ i ∧ i < 46) ∨ (50 ≤ i ∧ i < 58)
def nmU (j : Nat) : Prop := j < 15 ∨ (20 ≤ j ∧ j < 32) ∨ ∃ s i, s < 11 ∧ okI i ∧ j = 100 * (s + 1) + i
def inB (G : Gl) (lo n : Nat) (a : Nat) : Prop := ∃ i, i < n ∧ (n = 60 → okI i) ∧ a = Ad G (lo + i)
theorem nB {G : Gl} (ok : Ok G) {lo n j : Nat} (h1 : lo + n ≤ 3000) (hj : j < 3000) (h2 : j < lo ∨ lo + n ≤ j) : ¬ inB G lo n (Ad G j) := fun ⟨i, hi, _, e⟩ => nA ok hj (show lo + i < 3000 by omega) (show j ≠ lo + i by omega) e
/-- what was there and is not of P is there still -/
def Fr (P : Nat → Prop) (h h' : Hp) : Prop := ∀ a e, h a = some e → ¬ P a → h' a = some e
theorem Fr.rf {P : Nat → Prop} {h : Hp} : Fr P h h := fun _ _ k _ => k
theorem Fr.st {P : Nat → Prop} {h h' : Hp} {b : Nat} {x : va_E} (F : Fr P h h') (hb : P b) : Fr P h (hset h' b x) := fun a e k n => by
  rw [hset_n (fun q => n (by rw [q]; exact hb))]
  exact F a e k n
theorem Fr.tr {P P' Q : Nat → Prop} {h h' h2 : Hp} (F : Fr P h h') (F2 : Fr P' h' h2) (s1 : ∀ a, P a → Q a) (s2 : ∀ a, P' a → Q a) : Fr Q h h2 := fun a e k n => F2 a e (F a e k (fun q => n (s1 a q))) (fun q => n (s2 a q))
theorem Fr.mo {P Q : Nat → Prop} {h h' : Hp} (F : Fr P h h') (s : ∀ a, P a → Q a) : Fr Q h h' := fun a e k n => F a e k (fun q => n (s a q))
def va_u (f : Nat → va_E) (i : Nat) (x : va_E) : Nat → va_E := fun j => if j = i then x else f j
def Sh (G : Gl) (h : Hp) (B : Nat) (e : va_E) (gp : Nat → Int32) (fs fp fo : Nat → va_E) : Prop :=
  h (Ad G B) = some e ∧ h (Ad G (B + 1)) = some (eR G 3 12 (fun i => some (Ad G (B + 10 + i)))) ∧ h (Ad G (B + 2)) = some (eR G 4 16 (fun i => some (Ad G (B + 30 + i)))) ∧ h (Ad G (B + 3)) = some (eR G 5 8 (fun i => some (Ad G (B + 50 + i)))) ∧ h (Ad G (B + 4)) = some (eI G 8 gp) ∧ (∀ i, i < 12 → h (Ad G (B + 10 + i)) = some (fs i)) ∧ (∀ i, i < 16 → h (Ad G (B + 30 + i)) = some (fp i)) ∧ ∀ i, i < 8 → h (Ad G (B + 50 + i)) = some (fo i)
def PF (G : Gl) (N : Nat → Int32) (ns np no : Nat) (fs fp fo : Nat → va_E) : Prop :=
  N 2 = nI ns ∧ N 3 = nI np ∧ N 4 = nI no ∧ ns ≤ 12 ∧ np ≤ 16 ∧ no ≤ 8 ∧
  (∀ i, i < ns → fs i = sC N i) ∧ (∀ i, i < np → kOf (N (60 + 8 * i)) < 3 ∧ fp i = pC G N i) ∧ (∀ i, i < no → kOf (N (188 + 5 * i)) < 3 ∧ fo i = oC G N i) ∧
  (∀ i, i < 12 → ∃ g fa ar ps, fs i = eSheet g fa ar ps) ∧ (∀ i, i < 16 → ∃ k sh g b t r m q, fp i = ePot G (nI i) k sh g b t r m q) ∧ ∀ i, i < 8 → ∃ k t p po pd, fo i = eOrd G k t p po pd
theorem ShW.sh {G : Gl} {h : Hp} {B : Nat} {N : Nat → Int32} {ns np no : Nat} (H : ShW G h B N ns np no) : ∃ gp fs fp fo, Sh G h B (eShop G B N) gp fs fp fo ∧ PF G N ns np no fs fp fo := by
  obtain ⟨h0, h1, h2, h3, ⟨gp, h4⟩, c1, c2, c3, b1, b2, b3, hS, hP, hO, hS2, hP2, hO2⟩ := H
  have dz : ∀ (a : Nat) (e : va_E), h a = some e → (h a).getD e = e ∧ (h a).getD (.inr (0, [])) = e := fun a e q => by rw [q]; exact ⟨rfl, rfl⟩
  refine ⟨gp, fun i => (h (Ad G (B + 10 + i))).getD (.inr (0, [])), fun i => (h (Ad G (B + 30 + i))).getD (.inr (0, [])), fun i => (h (Ad G (B + 50 + i))).getD (.inr (0, [])), ⟨h0, h1, h2, h3, h4, ?_, ?_, ?_⟩, c1, c2, c3, b1, b2, b3, ?_, ?_, ?_, ?_, ?_, ?_⟩
  · intro i hi; obtain ⟨a, b, c, d, e⟩ := hS2 i hi; show _ = some (Option.getD _ _); rw [e]; rfl
  · intro i hi; obtain ⟨a, b, c, d, a1, a2, a3, a4, e⟩ := hP2 i hi; show _ = some (Option.getD _ _); rw [e]; rfl
  · intro i hi; obtain ⟨a, b, c, d, a1, e⟩ := hO2 i hi; show _ = some (Option.getD _ _); rw [e]; rfl
  · intro i hi; exact (dz _ _ (hS i hi)).2
  · intro i hi; exact ⟨(hP i hi).1, (dz _ _ (hP i hi).2).2⟩
  · intro i hi; exact ⟨(hO i hi).1, (dz _ _ (hO i hi).2).2⟩
  · intro i hi; obtain ⟨a, b, c, d, e⟩ := hS2 i hi; exact ⟨a, b, c, d, (dz _ _ e).2⟩
  · intro i hi; obtain ⟨a, b, c, d, a1, a2, a3, a4, e⟩ := hP2 i hi; exact ⟨a, b, c, d, a1, a2, a3, a4, (dz _ _ e).2⟩
  · intro i hi; obtain ⟨a, b, c, d, a1, e⟩ := hO2 i hi; exact ⟨a, b, c, d, a1, (dz _ _ e).2⟩
theorem Sh.w {G : Gl} {h : Hp} {B : Nat} {N : Nat → Int32} {ns np no : Nat} {gp : Nat → Int32} {fs fp fo : Nat → va_E} (S : Sh G h B (eShop G B N) gp fs fp fo) (F : PF G N ns np no fs fp fo) : ShW G h B N ns np no := by
  obtain ⟨h0, h1, h2, h3, h4, hS, hP, hO⟩ := S
  obtain ⟨c1, c2, c3, b1, b2, b3, fS, fP, fO, fS2, fP2, fO2⟩ := F
  refine ⟨h0, h1, h2, h3, ⟨gp, h4⟩, c1, c2, c3, b1, b2, b3, ?_, ?_, ?_, ?_, ?_, ?_⟩
  · intro i hi; rw [hS i (by omega), fS i hi]
  · intro i hi; exact ⟨(fP i hi).1, by rw [hP i (by omega), (fP i hi).2]⟩
  · intro i hi; exact ⟨(fO i hi).1, by rw [hO i (by omega), (fO i hi).2]⟩
  · intro i hi; obtain ⟨a, b, c, d, e⟩ := fS2 i hi; exact ⟨a, b, c, d, by rw [hS i hi, e]⟩
  · intro i hi; obtain ⟨a, b, c, d, a1, a2, a3, a4, e⟩ := fP2 i hi; exact ⟨a, b, c, d, a1, a2, a3, a4, by rw [hP i hi, e]⟩
  · intro i hi; obtain ⟨a, b, c, d, a1, e⟩ := fO2 i hi; exact ⟨a, b, c, d, a1, by rw [hO i hi, e]⟩
section SHL
variable {G : Gl} {h h' : Hp} {B : Nat} {e : va_E} {gp : Nat → Int32} {fs fp fo : Nat → va_E} {P : Nat → Prop}
theorem Sh.fr (S : Sh G h B e gp fs fp fo) (F : Fr P h h') (hn : ∀ i, i < 60 → ¬ P (Ad G (B + i))) : Sh G h' B e gp fs fp fo := by
  obtain ⟨h0, h1, h2, h3, h4, hS, hP, hO⟩ := S
  have g := fun i (hi : i < 60) => hn i hi
  exact ⟨F _ _ h0 (hn 0 (by omega)), F _ _ h1 (hn 1 (by omega)), F _ _ h2 (hn 2 (by omega)), F _ _ h3 (hn 3 (by omega)), F _ _ h4 (hn 4 (by omega)), fun i hi => F _ _ (hS i hi) (by rw [Nat.add_assoc]; exact hn _ (by omega)), fun i hi => F _ _ (hP i hi) (by rw [Nat.add_assoc]; exact hn _ (by omega)), fun i hi => F _ _ (hO i hi) (by rw [Nat.add_assoc]; exact hn _ (by omega))⟩
theorem Sh.out (S : Sh G h B e gp fs fp fo) {b : Nat} {x : va_E} (hn : ∀ i, i < 60 → Ad G (B + i) ≠ b) : Sh G (hset h b x) B e gp fs fp fo :=
  S.fr (P := fun a => a = b) (Fr.st Fr.rf rfl) (fun i hi => hn i hi)
theorem Sh.shop (ok : Ok G) (hB : B + 60 < 3000) (S : Sh G h B e gp fs fp fo) (x : va_E) : Sh G (hset h (Ad G B) x) B x gp fs fp fo := by
  obtain ⟨h0, h1, h2, h3, h4, hS, hP, hO⟩ := S
  have g : ∀ i, 0 < i → i < 60 → ∀ y, h (Ad G (B + i)) = some y → hset h (Ad G B) x (Ad G (B + i)) = some y := fun i h1 h2 y k => hget_n (nA ok (by omega) (by omega) (by omega)) k
  refine ⟨hset_s, g 1 (by omega) (by omega) _ h1, g 2 (by omega) (by omega) _ h2, g 3 (by omega) (by omega) _ h3, g 4 (by omega) (by omega) _ h4, fun i hi => ?_, fun i hi => ?_, fun i hi => ?_⟩
  · have := hS i hi; rw [Nat.add_assoc] at this ⊢; exact g _ (by omega) (by omega) _ this
  · have := hP i hi; rw [Nat.add_assoc] at this ⊢; exact g _ (by omega) (by omega) _ this
  · have := hO i hi; rw [Nat.add_assoc] at this ⊢; exact g _ (by omega) (by omega) _ this
theorem Sh.cell (ok : Ok G) (hB : B + 60 < 3000) (S : Sh G h B e gp fs fp fo) {j : Nat} (hj : j < 60) (h5 : 5 ≤ j) (x : va_E) : ∀ i, i < 60 → ∀ y, h (Ad G (B + i)) = some y → hset h (Ad G (B + j)) x (Ad G (B + i)) = some (if i = j then x else y) := fun i hi y k => by
  by_cases q : i = j
  · subst q; rw [if_pos rfl]; exact hset_s
  · rw [if_neg q]; exact hget_n (nA ok (by omega) (by omega) (by omega)) k
theorem Sh.cells (ok : Ok G) (hB : B + 60 < 3000) (S : Sh G h B e gp fs fp fo) {j : Nat} (hj : j < 60) (h5 : 5 ≤ j) (x : va_E) : Sh G (hset h (Ad G (B + j)) x) B e gp (fun i => if 10 + i = j then x else fs i) (fun i => if 30 + i = j then x else fp i) (fun i => if 50 + i = j then x else fo i) := by
  have g := S.cell ok hB hj h5 x
  obtain ⟨h0, h1, h2, h3, h4, hS, hP, hO⟩ := S
  have g' : ∀ i, i < 5 → ∀ y, h (Ad G (B + i)) = some y → hset h (Ad G (B + j)) x (Ad G (B + i)) = some y := fun i hi y k => by have := g i (by omega) y k; rwa [if_neg (by omega)] at this
  refine ⟨g' 0 (by omega) _ h0, g' 1 (by omega) _ h1, g' 2 (by omega) _ h2, g' 3 (by omega) _ h3, g' 4 (by omega) _ h4, fun i hi => ?_, fun i hi => ?_, fun i hi => ?_⟩
  · have := hS i hi; rw [Nat.add_assoc] at this ⊢; exact g _ (by omega) _ this
  · have := hP i hi; rw [Nat.add_assoc] at this ⊢; exact g _ (by omega) _ this
  · have := hO i hi; rw [Nat.add_assoc] at this ⊢; exact g _ (by omega) _ this
theorem Sh.cg {e' : va_E} {fs' fp' fo' : Nat → va_E} (S : Sh G h B e gp fs fp fo) (he : e = e') (h1 : ∀ i, i < 12 → fs i = fs' i) (h2 : ∀ i, i < 16 → fp i = fp' i) (h3 : ∀ i, i < 8 → fo i = fo' i) : Sh G h B e' gp fs' fp' fo' := by
  subst he
  obtain ⟨g0, g1, g2, g3, g4, hS, hP, hO⟩ := S
  exact ⟨g0, g1, g2, g3, g4, fun i hi => by rw [hS i hi, h1 i hi], fun i hi => by rw [hP i hi, h2 i hi], fun i hi => by rw [hO i hi, h3 i hi]⟩
theorem Sh.sheet (ok : Ok G) (hB : B + 60 < 3000) (S : Sh G h B e gp fs fp fo) {j : Nat} (hj : j < 12) (x : va_E) : Sh G (hset h (Ad G (B + 10 + j)) x) B e gp (va_u fs j x) fp fo := by
  have := S.cells ok hB (j := 10 + j) (by omega) (by omega) x
  rw [← Nat.add_assoc] at this
  exact this.cg rfl (fun i hi => by unfold va_u; by_cases q : i = j <;> simp [q]) (fun i hi => by rw [if_neg (by omega)]) (fun i hi => by rw [if_neg (by omega)])
theorem Sh.pot (ok : Ok G) (hB : B + 60 < 3000) (S : Sh G h B e gp fs fp fo) {j : Nat} (hj : j < 16) (x : va_E) : Sh G (hset h (Ad G (B + 30 + j)) x) B e gp fs (va_u fp j x) fo := by
  have := S.cells ok hB (j := 30 + j) (by omega) (by omega) x
  rw [← Nat.add_assoc] at this
  exact this.cg rfl (fun i hi => by rw [if_neg (by omega)]) (fun i hi => by unfold va_u; by_cases q : i = j <;> simp [q]) (fun i hi => by rw [if_neg (by omega)])
theorem Sh.ord (ok : Ok G) (hB : B + 60 < 3000) (S : Sh G h B e gp fs fp fo) {j : Nat} (hj : j < 8) (x : va_E) : Sh G (hset h (Ad G (B + 50 + j)) x) B e gp fs fp (va_u fo j x) := by
  have := S.cells ok hB (j := 50 + j) (by omega) (by omega) x
  rw [← Nat.add_assoc] at this
  exact this.cg rfl (fun i hi => by rw [if_neg (by omega)]) (fun i hi => by rw [if_neg (by omega)]) (fun i hi => by unfold va_u; by_cases q : i = j <;> simp [q])
theorem Sh.gpp (ok : Ok G) (hB : B + 60 < 3000) (S : Sh G h B e gp fs fp fo) (gp' : Nat → Int32) : Sh G (hset h (Ad G (B + 4)) (eI G 8 gp')) B e gp' fs fp fo := by
  obtain ⟨h0, h1, h2, h3, h4, hS, hP, hO⟩ := S
  have g : ∀ i, i ≠ 4 → i < 60 → ∀ y, h (Ad G (B + i)) = some y → hset h (Ad G (B + 4)) (eI G 8 gp') (Ad G (B + i)) = some y := fun i h1 h2 y k => hget_n (nA ok (by omega) (by omega) (by omega)) k
  refine ⟨g 0 (by omega) (by omega) _ h0, g 1 (by omega) (by omega) _ h1, g 2 (by omega) (by omega) _ h2, g 3 (by omega) (by omega) _ h3, hset_s, fun i hi => ?_, fun i hi => ?_, fun i hi => ?_⟩
  · have := hS i hi; rw [Nat.add_assoc] at this ⊢; exact g _ (by omega) (by omega) _ this
  · have := hP i hi; rw [Nat.add_assoc] at this ⊢; exact g _ (by omega) (by omega) _ this
  · have := hO i hi; rw [Nat.add_assoc] at this ⊢; exact g _ (by omega) (by omega) _ this
theorem ShW.fr {N : Nat → Int32} {ns np no : Nat} (H : ShW G h B N ns np no) (F : Fr P h h') (hn : ∀ i, i < 60 → ¬ P (Ad G (B + i))) : ShW G h' B N ns np no := by
  obtain ⟨gp, fs, fp, fo, S, F2⟩ := H.sh
  exact (S.fr F hn).w F2
end SHL
theorem inB_i {G : Gl} {lo n i : Nat} (h : i < n) (hk : n = 60 → okI i) : inB G lo n (Ad G (lo + i)) := ⟨i, h, hk, rfl⟩
theorem inB_0 {G : Gl} {lo n : Nat} (h : 0 < n) : inB G lo n (Ad G lo) := ⟨0, h, fun _ => Or.inl (by omega), rfl⟩
theorem inB_2 {G : Gl} {lo n j i : Nat} (h : j + i < n) (hk : n = 60 → okI (j + i) := by intro _; unfold okI; omega) : inB G lo n (Ad G (lo + j + i)) := ⟨j + i, h, hk, by rw [Nat.add_assoc]⟩
