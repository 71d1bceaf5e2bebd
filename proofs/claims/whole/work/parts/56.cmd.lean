/-! ===== what a command is, said once for both sides ===== -/
def Blk (tx : List Int32) (a : Nat) : Prop := a < tx.length ∧ tx.getD a 0 = 32
def Wrd (tx : List Int32) (a v : Nat) : Prop := ∀ j, j < wl v → mt tx a (3 + v) j
def Cmd (tx : List Int32) (a v : Nat) (f s : Int32) (a' : Nat) : Prop := v < 6 ∧ Wrd tx a v ∧ Blk tx (a + wl v) ∧ ∃ n, 0 < n ∧ Dg tx (a + wl v + 1) n 2 ∧ f = nvI tx (a + wl v + 1) n ∧ ((v = 5 ∧ s = 0 ∧ a' = a + wl v + 1 + n) ∨ (v < 5 ∧ Blk tx (a + wl v + 1 + n) ∧ ∃ n2, 0 < n2 ∧ Dg tx (a + wl v + 1 + n + 1) n2 (mdV v) ∧ s = nvI tx (a + wl v + 1 + n + 1) n2 ∧ a' = a + wl v + 1 + n + 1 + n2))
def Flt (tx : List Int32) (a p : Nat) : Prop :=
  ((∀ u, u < 6 → ¬ mt tx a (3 + u) 0) ∧ p = a) ∨
  (∃ v j, v < 6 ∧ 0 < j ∧ j < wl v ∧ (∀ i, i < j → mt tx a (3 + v) i) ∧ ¬ mt tx a (3 + v) j ∧ p = a + j) ∨
  (∃ v, v < 6 ∧ Wrd tx a v ∧ ¬ Blk tx (a + wl v) ∧ p = a + wl v) ∨
  (∃ v, v < 6 ∧ Wrd tx a v ∧ Blk tx (a + wl v) ∧ ¬ dgt tx (a + wl v + 1) ∧ p = a + wl v + 1) ∨
  (∃ v n, v < 5 ∧ Wrd tx a v ∧ Blk tx (a + wl v) ∧ 0 < n ∧ Dg tx (a + wl v + 1) n 2 ∧ ¬ Blk tx (a + wl v + 1 + n) ∧ p = a + wl v + 1 + n) ∨
  (∃ v n, v < 5 ∧ Wrd tx a v ∧ Blk tx (a + wl v) ∧ 0 < n ∧ Dg tx (a + wl v + 1) n 2 ∧ Blk tx (a + wl v + 1 + n) ∧ ¬ dgt tx (a + wl v + 1 + n + 1) ∧ p = a + wl v + 1 + n + 1)
theorem first_no (P : Nat → Prop) : ∀ m, (∀ j, j < m → P j) ∨ ∃ j, j < m ∧ (∀ i, i < j → P i) ∧ ¬ P j
  | 0 => Or.inl (fun j hj => absurd hj (Nat.not_lt_zero j))
  | m + 1 => by
    rcases first_no P m with h | ⟨j, hj, h1, h2⟩
    · rcases Classical.em (P m) with q | q
      · exact Or.inl (fun j hj => by rcases (show j < m ∨ j = m by omega) with z | rfl; exact h j z; exact q)
      · exact Or.inr ⟨m, by omega, h, q⟩
    · exact Or.inr ⟨j, by omega, h1, h2⟩
theorem Dg.ex (tx : List Int32) (a md : Nat) : ∃ n, Dg tx a n md := by
  rcases first_no (fun i => dgt tx (a + i)) md with h | ⟨j, hj, h1, h2⟩
  · exact ⟨md, Nat.le_refl _, h, Or.inl rfl⟩
  · exact ⟨j, by omega, h1, Or.inr h2⟩
/-- every place begins a command or has its fault -/
theorem cmd_or (tx : List Int32) (a : Nat) : (∃ v f s a', Cmd tx a v f s a') ∨ ∃ p, Flt tx a p := by
  rcases Classical.em (∃ v, v < 6 ∧ mt tx a (3 + v) 0) with ⟨v, hv, h0⟩ | hno
  · rcases first_no (fun j => mt tx a (3 + v) j) (wl v) with hw | ⟨j, hj, h1, h2⟩
    · rcases Classical.em (Blk tx (a + wl v)) with hb | hb
      · obtain ⟨n, D⟩ := Dg.ex tx (a + wl v + 1) 2
        rcases Nat.eq_zero_or_pos n with rfl | hn
        · exact Or.inr ⟨_, Or.inr (Or.inr (Or.inr (Or.inl ⟨v, hv, hw, hb, (D.2.2.resolve_left (by omega)), rfl⟩)))⟩
        · rcases (show v = 5 ∨ v < 5 by omega) with h5 | h5
          · exact Or.inl ⟨v, _, _, _, hv, hw, hb, n, hn, D, rfl, Or.inl ⟨h5, rfl, rfl⟩⟩
          · rcases Classical.em (Blk tx (a + wl v + 1 + n)) with hb2 | hb2
            · obtain ⟨n2, D2⟩ := Dg.ex tx (a + wl v + 1 + n + 1) (mdV v)
              rcases Nat.eq_zero_or_pos n2 with rfl | hn2
              · have hm := (md_t v hv).2.2 h5
                exact Or.inr ⟨_, Or.inr (Or.inr (Or.inr (Or.inr (Or.inr ⟨v, n, h5, hw, hb, hn, D, hb2, (D2.2.2.resolve_left (by omega)), rfl⟩))))⟩
              · exact Or.inl ⟨v, _, _, _, hv, hw, hb, n, hn, D, rfl, Or.inr ⟨h5, hb2, n2, hn2, D2, rfl, rfl⟩⟩
            · exact Or.inr ⟨_, Or.inr (Or.inr (Or.inr (Or.inr (Or.inl ⟨v, n, h5, hw, hb, hn, D, hb2, rfl⟩))))⟩
      · exact Or.inr ⟨_, Or.inr (Or.inr (Or.inl ⟨v, hv, hw, hb, rfl⟩))⟩
    · refine Or.inr ⟨_, Or.inr (Or.inl ⟨v, j, hv, ?_, hj, h1, h2, rfl⟩)⟩
      rcases Nat.eq_zero_or_pos j with rfl | q
      · exact absurd h0 h2
      · exact q
  · exact Or.inr ⟨a, Or.inl ⟨fun u hu h => hno ⟨u, hu, h⟩, rfl⟩⟩
theorem Wrd.all {tx : List Int32} {a v : Nat} (hv : v < 6) (hw : Wrd tx a v) (hb : Blk tx (a + wl v)) : ∀ j, j < tsLen (3 + v) → mt tx a (3 + v) j := by
  obtain ⟨-, -, -, -, w5, w6, -⟩ := wl_t v hv
  intro j hj
  rcases (show j < wl v ∨ j = wl v by omega) with q | rfl
  · exact hw j q
  · exact ⟨hb.1, hb.2.trans w6.symm⟩
/-- the class reads a command -/
theorem ct_tcOK {l : Launch} {G : Gl} {h : Hp} (ok : Ok G) {tx : List Int32} {b a cn ci : Nat} {vf : Nat → Option Nat} {ff sf : Nat → Int32} (hs : h (Ad G 9) = some (eSc G (nI cn) (nI a))) (h11 : h (Ad G 11) = some (eR G 7 10 vf)) (h12 : h (Ad G 12) = some (eI G 10 ff)) (h13 : h (Ad G 13) = some (eI G 10 sf)) (T : SBT G h (Ad G 10) tx b) (hA : Asc tx) (h60 : tx.length ≤ 60) (ha60 : a ≤ 60) (hci : ci < 10) {v a' : Nat} {f s : Int32} (C : Cmd tx a v f s a') : Ct l G mX6_takeCommand 11 0 0 [.ref (Ad G 9), .int (nI ci)] h (fun w h' => w = some (.int 1) ∧ ∃ vf' ff' sf', h' (Ad G 9) = some (eSc G (nI cn) (nI (a'))) ∧ h' (Ad G 11) = some (eR G 7 10 vf') ∧ h' (Ad G 12) = some (eI G 10 ff') ∧ h' (Ad G 13) = some (eI G 10 sf') ∧ TcF G h h' ∧ (∀ q, q < ci → vf' q = vf q ∧ ff' q = ff q ∧ sf' q = sf q) ∧ vf' ci = some (G.2.2.2 (3 + v)) ∧ ff' ci = f ∧ sf' ci = s) := by
  obtain ⟨hv, hw, hb, n, hn, D, rfl, C⟩ := C
  have hw2 := hw.all hv hb
  have w5 := (wl_t v hv).2.2.2.2.1
  have e : a + tsLen (3 + v) = a + wl v + 1 := by omega
  rw [← e] at D C ⊢
  rcases C with ⟨h5, rfl, rfl⟩ | ⟨h5, hb2, n2, hn2, D2, rfl, rfl⟩
  · exact ct_tc_5 ok hs h11 h12 h13 T hA h60 ha60 hci hv h5 hw2 hn D
  · exact ct_tc_S ok hs h11 h12 h13 T hA h60 ha60 hci hv h5 hw2 hn D hb2 hn2 D2
theorem ct_tcNo {l : Launch} {G : Gl} {h : Hp} (ok : Ok G) {tx : List Int32} {b a cn ci : Nat} {vf : Nat → Option Nat} {ff sf : Nat → Int32} (hs : h (Ad G 9) = some (eSc G (nI cn) (nI a))) (h11 : h (Ad G 11) = some (eR G 7 10 vf)) (h12 : h (Ad G 12) = some (eI G 10 ff)) (h13 : h (Ad G 13) = some (eI G 10 sf)) (T : SBT G h (Ad G 10) tx b) (hA : Asc tx) (h60 : tx.length ≤ 60) (ha60 : a ≤ 60) (hci : ci < 10) {p : Nat} (F : Flt tx a p) : Ct l G mX6_takeCommand 11 0 0 [.ref (Ad G 9), .int (nI ci)] h (fun w h' => w = some (.int 0) ∧ ∃ vf' ff' sf', h' (Ad G 9) = some (eSc G (nI cn) (nI (p))) ∧ h' (Ad G 11) = some (eR G 7 10 vf') ∧ h' (Ad G 12) = some (eI G 10 ff') ∧ h' (Ad G 13) = some (eI G 10 sf') ∧ TcF G h h' ∧ (∀ q, q < ci → vf' q = vf q ∧ ff' q = ff q ∧ sf' q = sf q) ∧ True) := by
  rcases F with ⟨h1, rfl⟩ | ⟨v, j, hv, hj0, hj, h1, h2, rfl⟩ | ⟨v, hv, hw, hb, rfl⟩ | ⟨v, hv, hw, hb, hd, rfl⟩ | ⟨v, n, h5, hw, hb, hn, D, hb2, rfl⟩ | ⟨v, n, h5, hw, hb, hn, D, hb2, hd2, rfl⟩
  · by_cases hal : p < tx.length
    · exact ct_tc_A1 ok hs h11 h12 h13 T hA h60 ha60 hci hal (fun i hi e => h1 i hi ⟨hal, e.symm⟩)
    · exact ct_tc_A0 ok hs h11 h12 h13 T hA h60 ha60 hci hal
  · have w5 := (wl_t v hv).2.2.2.2.1
    exact ct_tc_B ok hs h11 h12 h13 T hA h60 ha60 hci hv hj0 (by omega) h1 h2
  · obtain ⟨-, -, w3, -, w5, w6, -⟩ := wl_t v hv
    exact ct_tc_B ok hs h11 h12 h13 T hA h60 ha60 hci hv w3 (by omega) hw (fun z => hb ⟨z.1, z.2.trans w6⟩)
  · have w5 := (wl_t v hv).2.2.2.2.1
    have e : a + tsLen (3 + v) = a + wl v + 1 := by omega
    rw [← e] at hd ⊢
    exact ct_tc_C ok hs h11 h12 h13 T hA h60 ha60 hci hv (hw.all hv hb) ⟨by omega, fun i hi => absurd hi (Nat.not_lt_zero i), Or.inr hd⟩
  · have w5 := (wl_t v (by omega)).2.2.2.2.1
    have e : a + tsLen (3 + v) = a + wl v + 1 := by omega
    rw [← e] at D hb2 ⊢
    exact ct_tc_D ok hs h11 h12 h13 T hA h60 ha60 hci (by omega) h5 (hw.all (by omega) hb) hn D hb2
  · have w5 := (wl_t v (by omega)).2.2.2.2.1
    have e : a + tsLen (3 + v) = a + wl v + 1 := by omega
    rw [← e] at D hb2 hd2 ⊢
    exact ct_tc_E ok hs h11 h12 h13 T hA h60 ha60 hci (by omega) h5 (hw.all (by omega) hb) hn D hb2 ⟨by omega, fun i hi => absurd hi (Nat.not_lt_zero i), Or.inr hd2⟩
theorem mw_mt {tx : List Int32} {a u j : Nat} (hu : u < 6) (hj : j < wl u) : mw tx a u j ↔ mt tx a (3 + u) j := by
  unfold mw mt
  rw [(wl_t u hu).2.2.2.2.2.2 j hj]
theorem mlp_of {tx : List Int32} {a v j : Nat} (hv : v < 6) (hj : j ≤ wl v) (h1 : ∀ i, i < j → mt tx a (3 + v) i) (h2 : j = wl v ∨ ¬ mt tx a (3 + v) j) (h3 : ∀ u, u < 6 → u ≠ v → ¬ mt tx a (3 + u) 0) : MlP tx a (fun u => if u = v then j else 0) := by
  intro u hu
  by_cases q : u = v
  · subst q
    simp only [if_true]
    refine ⟨hj, fun i hi => (mw_mt hu (by omega)).mpr (h1 i hi), ?_⟩
    rcases h2 with e | e
    · exact Or.inl e
    · rcases (show j = wl u ∨ j < wl u by omega) with z | z
      · exact Or.inl z
      · exact Or.inr (fun y => e ((mw_mt hu z).mp y))
  · simp only [if_neg q]
    exact ⟨Nat.zero_le _, fun i hi => absurd hi (Nat.not_lt_zero i), Or.inr (fun y => h3 u hu q ((mw_mt hu (wl_t u hu).2.2.1).mp y))⟩
theorem oth {tx : List Int32} {a v : Nat} (hv : v < 6) (h0 : mt tx a (3 + v) 0) : ∀ u, u < 6 → u ≠ v → ¬ mt tx a (3 + u) 0 := fun u hu q y => q (ts_dist u hu v hv (y.2.symm.trans h0.2))
theorem faF_at {a v j : Nat} : ∀ i, faF (fun u => if u = v then j else 0) a i = if v < i then a + j else a
  | 0 => by rw [if_neg (Nat.not_lt_zero v)]; rfl
  | i + 1 => by
    show max (faF _ a i) (a + (if i = v then j else 0)) = _
    rw [faF_at i]
    by_cases q : i = v
    · subst q; rw [if_neg (Nat.lt_irrefl _), if_pos rfl, if_pos (Nat.lt_succ_self _)]; omega
    · rw [if_neg q]
      by_cases z : v < i
      · rw [if_pos z, if_pos (by omega)]; omega
      · rw [if_neg z, if_neg (by omega)]; omega
/-- the model reads a command -/
theorem ct_rcOK {l : Launch} {G : Gl} {h : Hp} {sv rem typ err lin why wha beh its : Int32} {N : Nat → Int32} (ok : Ok G) {tv : Nat → Int32} (htext : h (Ad G 27) = some (eI G 60 tv)) {tx : List Int32} {a : Nat} (hT : ∀ i, i < tx.length → tv i = tx.getD i 0) (h60 : tx.length ≤ 60) (ha60 : a ≤ 60) {kd nb : Nat → Int32} (h30 : h (Ad G 30) = some (eI G 16 kd)) (h31 : h (Ad G 31) = some (eI G 32 nb)) {ci : Nat} (hci : ci < 16) {v a' : Nat} {f s : Int32} (C : Cmd tx a v f s a') : Ct l G mX12_readsCommand 8 0 0 [.ref (Ad G 20)] (mH G h (eMd G sv rem typ err lin why wha beh its (nI tx.length) (nI (a)) (-1) (nI ci)) N) (fun w h' => w = none ∧ ∃ kd' nb' att', h' = mH G (hset (hset h (Ad G 30) (eI G 16 kd')) (Ad G 31) (eI G 32 nb')) (eMd G sv rem typ err lin why wha beh its (nI tx.length) att' (-1) (nI (ci + 1))) N ∧ (∀ q, q < ci → kd' q = kd q ∧ nb' (2 * q) = nb (2 * q) ∧ nb' (2 * q + 1) = nb (2 * q + 1)) ∧ att' = nI a' ∧ kd' ci = nI (5 + v) ∧ nb' (2 * ci) = f ∧ (v < 5 → nb' (2 * ci + 1) = s)) := by
  obtain ⟨hv, hw, hb, n, hn, D, rfl, C⟩ := C
  have M := mlp_of hv (Nat.le_refl _) hw (Or.inl rfl) (oth hv (hw 0 (wl_t v hv).2.2.1))
  have hf : (fun u => if u = v then wl v else 0) v = wl v := if_pos rfl
  have hnf : ∀ u, u < v → (fun u => if u = v then wl v else 0) u ≠ wl u := fun u hu e => by
    have := (wl_t u (by omega)).2.2.1
    simp only [if_neg (show ¬ u = v by omega)] at e
    omega
  rcases C with ⟨h5, rfl, rfl⟩ | ⟨h5, hb2, n2, hn2, D2, rfl, rfl⟩
  · refine Ct.mono (ct_rc_5 ok htext hT h60 ha60 h30 h31 hci M hv hf hnf h5 hb hn D) ?_
    rintro w h' ⟨e1, kd', nb', e2, e3, e4, e5⟩
    exact ⟨e1, kd', nb', _, e2, e3, rfl, e4, e5, fun z => absurd h5 (by omega)⟩
  · refine Ct.mono (ct_rc_S ok htext hT h60 ha60 h30 h31 hci M hv hf hnf h5 hb hn D hb2 hn2 D2) ?_
    rintro w h' ⟨e1, kd', nb', e2, e3, e4, e5, e6⟩
    exact ⟨e1, kd', nb', _, e2, e3, rfl, e4, e5, fun _ => e6⟩
theorem ct_rcNo {l : Launch} {G : Gl} {h : Hp} {sv rem typ err lin why wha beh its : Int32} {N : Nat → Int32} (ok : Ok G) {tv : Nat → Int32} (htext : h (Ad G 27) = some (eI G 60 tv)) {tx : List Int32} {a : Nat} (hT : ∀ i, i < tx.length → tv i = tx.getD i 0) (h60 : tx.length ≤ 60) (ha60 : a ≤ 60) {kd nb : Nat → Int32} (h30 : h (Ad G 30) = some (eI G 16 kd)) (h31 : h (Ad G 31) = some (eI G 32 nb)) {ci : Nat} (hci : ci < 16) {p : Nat} (F : Flt tx a p) : Ct l G mX12_readsCommand 8 0 0 [.ref (Ad G 20)] (mH G h (eMd G sv rem typ err lin why wha beh its (nI tx.length) (nI (a)) (-1) (nI ci)) N) (fun w h' => w = none ∧ ∃ kd' nb' att', h' = mH G (hset (hset h (Ad G 30) (eI G 16 kd')) (Ad G 31) (eI G 32 nb')) (eMd G sv rem typ err lin why wha beh its (nI tx.length) att' (nI p) (nI (ci + 1))) N ∧ (∀ q, q < ci → kd' q = kd q ∧ nb' (2 * q) = nb (2 * q) ∧ nb' (2 * q + 1) = nb (2 * q + 1)) ∧ True) := by
  have fin : ∀ {at0 : Int32} {p : Nat}, Ct l G mX12_readsCommand 8 0 0 [.ref (Ad G 20)] (mH G h (eMd G sv rem typ err lin why wha beh its (nI tx.length) (nI (a)) (-1) (nI ci)) N) (fun w h' => w = none ∧ ∃ kd' nb', h' = mH G (hset (hset h (Ad G 30) (eI G 16 kd')) (Ad G 31) (eI G 32 nb')) (eMd G sv rem typ err lin why wha beh its (nI tx.length) at0 (nI p) (nI (ci + 1))) N ∧ (∀ q, q < ci → kd' q = kd q ∧ nb' (2 * q) = nb (2 * q) ∧ nb' (2 * q + 1) = nb (2 * q + 1)) ∧ True) → Ct l G mX12_readsCommand 8 0 0 [.ref (Ad G 20)] (mH G h (eMd G sv rem typ err lin why wha beh its (nI tx.length) (nI (a)) (-1) (nI ci)) N) (fun w h' => w = none ∧ ∃ kd' nb' att', h' = mH G (hset (hset h (Ad G 30) (eI G 16 kd')) (Ad G 31) (eI G 32 nb')) (eMd G sv rem typ err lin why wha beh its (nI tx.length) att' (nI p) (nI (ci + 1))) N ∧ (∀ q, q < ci → kd' q = kd q ∧ nb' (2 * q) = nb (2 * q) ∧ nb' (2 * q + 1) = nb (2 * q + 1)) ∧ True) := by
    intro at0 p k
    refine Ct.mono k ?_
    rintro w h' ⟨e1, kd', nb', e2, e3, e4⟩
    exact ⟨e1, kd', nb', _, e2, e3, e4⟩
  have full : ∀ v, v < 6 → Wrd tx a v → MlP tx a (fun u => if u = v then wl v else 0) := fun v hv hw => mlp_of hv (Nat.le_refl _) hw (Or.inl rfl) (oth hv (hw 0 (wl_t v hv).2.2.1))
  have hnf : ∀ v, v < 6 → ∀ u, u < v → (fun u => if u = v then wl v else 0) u ≠ wl u := fun v hv u hu e => by
    have := (wl_t u (by omega)).2.2.1
    simp only [if_neg (show ¬ u = v by omega)] at e
    omega
  have nof : ∀ v j, v < 6 → j < wl v → ∀ u, u < 6 → (fun u => if u = v then j else 0) u ≠ wl u := fun v j hv hj u hu e => by
    have := (wl_t u hu).2.2.1
    by_cases q : u = v
    · subst q; simp only [if_true] at e; omega
    · simp only [if_neg q] at e; omega
  rcases F with ⟨h1, rfl⟩ | ⟨v, j, hv, hj0, hj, h1, h2, rfl⟩ | ⟨v, hv, hw, hb, rfl⟩ | ⟨v, hv, hw, hb, hd, rfl⟩ | ⟨v, n, h5, hw, hb, hn, D, hb2, rfl⟩ | ⟨v, n, h5, hw, hb, hn, D, hb2, hd2, rfl⟩
  · have k := ct_rc_n (l := l) (sv := sv) (rem := rem) (typ := typ) (err := err) (lin := lin) (why := why) (wha := wha) (beh := beh) (its := its) (N := N) ok htext hT h60 ha60 h30 h31 hci (mlp_of (v := 0) (j := 0) (by omega) (Nat.zero_le _) (fun i hi => absurd hi (Nat.not_lt_zero i)) (Or.inr (h1 0 (by omega))) (fun u hu _ => h1 u hu)) (nof 0 0 (by omega) (wl_t 0 (by omega)).2.2.1)
    rw [faF_at, if_pos (by omega), Nat.add_zero] at k
    exact fin k
  · have k := ct_rc_n (l := l) (sv := sv) (rem := rem) (typ := typ) (err := err) (lin := lin) (why := why) (wha := wha) (beh := beh) (its := its) (N := N) ok htext hT h60 ha60 h30 h31 hci (mlp_of hv (by omega) h1 (Or.inr h2) (oth hv (h1 0 hj0))) (nof v j hv hj)
    rw [faF_at, if_pos hv] at k
    exact fin k
  · exact fin (ct_rc_B ok htext hT h60 ha60 h30 h31 hci (full v hv hw) hv (if_pos rfl) (hnf v hv) hb)
  · exact fin (ct_rc_C ok htext hT h60 ha60 h30 h31 hci (full v hv hw) hv (if_pos rfl) (hnf v hv) hb hd)
  · exact fin (ct_rc_D ok htext hT h60 ha60 h30 h31 hci (full v (by omega) hw) (by omega) (if_pos rfl) (hnf v (by omega)) h5 hb hn D hb2)
  · exact fin (ct_rc_E ok htext hT h60 ha60 h30 h31 hci (full v (by omega) hw) (by omega) (if_pos rfl) (hnf v (by omega)) h5 hb hn D hb2 hd2)
