/-! ===== the model: its object, its row of numbers ===== -/
abbrev eMd (G : Gl) (sv rem typ err lin why wha beh its siz att wro tol : Int32) : va_E := .inr (11, [.ref (Ad G 21), .ref (Ad G 22), .ref (Ad G 23), .ref (Ad G 24), .int sv, .int rem, .ref (Ad G 25), .ref (Ad G 26), .ref (Ad G 27), .int typ, .int err, .ref (Ad G 28), .int lin, .int why, .int wha, .int beh, .int its, .ref (Ad G 29), .int siz, .int att, .int wro, .int tol, .ref (Ad G 30), .ref (Ad G 31)])
def mH (G : Gl) (h : Hp) (e : va_E) (N : Nat → Int32) : Hp := hset (hset h (Ad G 20) e) (Ad G 21) (eI G 228 N)
section MHL
variable {G : Gl} {h : Hp} {e e' : va_E} {N N' : Nat → Int32} {a : Nat} {x : va_E}
theorem n2021 (ok : Ok G) : Ad G 20 ≠ Ad G 21 := nA ok (by omega) (by omega) (by omega)
theorem mH_0 (ok : Ok G) : mH G h e N (Ad G 20) = some e := by unfold mH; rw [hset_n (n2021 ok), hset_s]
theorem mH_1 : mH G h e N (Ad G 21) = some (eI G 228 N) := hset_s
theorem mH_o (n0 : a ≠ Ad G 20) (n1 : a ≠ Ad G 21) (k : h a = some x) : mH G h e N a = some x := by unfold mH; rw [hset_n n1, hset_n n0]; exact k
theorem mH_p0 (ok : Ok G) : hset (mH G h e N) (Ad G 20) e' = mH G h e' N := by
  funext q
  have := n2021 ok
  unfold mH hset
  by_cases q0 : q = Ad G 20
  · subst q0; simp [this]
  · simp [q0]
theorem mH_p1 : hset (mH G h e N) (Ad G 21) (eI G 228 N') = mH G h e N' := hset_2
theorem mH_c (n0 : a ≠ Ad G 20) (n1 : a ≠ Ad G 21) : hset (mH G h e N) a x = mH G (hset h a x) e N := by
  funext q
  unfold mH hset
  by_cases q0 : q = a
  · subst q0; simp [n0, n1]
  · simp [q0]
theorem mH_id (h0 : h (Ad G 20) = some e) (h1 : h (Ad G 21) = some (eI G 228 N)) : mH G h e N = h := by
  unfold mH
  rw [show hset h (Ad G 20) e = h from hset_self h0, hset_self h1]
end MHL
section CALC9
variable {l : Launch} {G : Gl} {M : MM} {rm : Room} {K : List Frame → Array Value → State → State → Prop} {Q : Option Value → Hp → Prop} {mc ms pc : Nat} {L L' : List (Nat × Value)} {st : List Value} {h : Hp} {e : va_E} {N : Nat → Int32}
theorem x_mput {own C0 : String} {T : u_T} {N0 index k : Nat} {ty : Nat → FieldType} {fs : List Value} {v : Value} (ok : Ok G) (F : FW own index 11 k C0 T N0 ty) (hown : M.1.cls = own) (hfin : (T k).2.2.2 = false) (hn : narrow (ty k) v = v) (hfit : fits (ty k) v = true) (hd : decode M.2.1 pc = .ok (.putfield index, 3)) (hl0 : k < fs.length) (kk : XX l G M rm K mc ms (pc + 3) L st (mH G h (.inr (11, fs.set k v)) N)) : XX l G M rm K mc ms pc L (v :: .ref (Ad G 20) :: st) (mH G h (.inr (11, fs)) N) :=
  x_put F hown hfin hn hfit hd (mH_0 ok) hl0 (aA ok (by omega)) (by rw [mH_p0 ok]; exact kk)
theorem x_mald {x : Int32} {i : Nat} (hx : x = nI i) (hd : decode M.2.1 pc = .ok (.iaload, 1)) (hi : i < 228) {v : Int32} (hv : N i = v) (kk : XX l G M rm K mc ms (pc + 1) L (.int v :: st) (mH G h e N)) : XX l G M rm K mc ms pc L (.int x :: .ref (Ad G 21) :: st) (mH G h e N) := by
  subst hx hv
  exact x_ialdn hd mH_1 hi (by decide) kk
theorem x_mast {x y : Int32} {i : Nat} (ok : Ok G) (hx : x = nI i) (hd : decode M.2.1 pc = .ok (.iastore, 1)) (hi : i < 228) (kk : XX l G M rm K mc ms (pc + 1) L st (mH G h e (upd N i y))) : XX l G M rm K mc ms pc L (.int y :: .int x :: .ref (Ad G 21) :: st) (mH G h e N) := by
  subst hx
  exact x_iastn hd mH_1 hi (by decide) (aA ok (by omega)) (by rw [mH_p1]; exact kk)
end CALC9
theorem ix_p (p w : Nat) : (60 : Int32) + 8 * nI p + nI w = nI (60 + 8 * p + w) := by rw [show (60 : Int32) = nI 60 from rfl, show (8 : Int32) = nI 8 from rfl, pk_mul, nI_add, nI_add]
theorem ix_o (p w : Nat) : (188 : Int32) + 5 * nI p + nI w = nI (188 + 5 * p + w) := by rw [show (188 : Int32) = nI 188 from rfl, show (5 : Int32) = nI 5 from rfl, pk_mul, nI_add, nI_add]
theorem ix_s (p : Nat) : (12 : Int32) + 4 * nI p = nI (12 + 4 * p) := by rw [show (12 : Int32) = nI 12 from rfl, show (4 : Int32) = nI 4 from rfl, pk_mul, nI_add]
theorem ix_s1 (p : Nat) (w : Nat) : (12 : Int32) + 4 * nI p + nI w = nI (12 + 4 * p + w) := by rw [ix_s, nI_add]
theorem ix_o0 (p : Nat) : (188 : Int32) + 5 * nI p = nI (188 + 5 * p) := by rw [show (188 : Int32) = nI 188 from rfl, show (5 : Int32) = nI 5 from rfl, pk_mul, nI_add]
def K3 (x : Int32) : Prop := x = nI (kOf x) ∧ kOf x < 3
theorem K3.c {x : Int32} (h : K3 x) : x = 0 ∨ x = 1 ∨ x = 2 := by
  obtain ⟨h1, h2⟩ := h
  rcases (show kOf x = 0 ∨ kOf x = 1 ∨ kOf x = 2 by omega) with e | e | e <;> rw [e] at h1
  · exact Or.inl h1
  · exact Or.inr (Or.inl h1)
  · exact Or.inr (Or.inr h1)
def PotI (N : Nat → Int32) (i : Nat) : Prop := K3 (N (60 + 8 * i)) ∧ (∃ g, N (61 + 8 * i) = nI g ∧ 1 ≤ g ∧ g ≤ 9) ∧ (∃ b, N (62 + 8 * i) = nI b ∧ b ≤ 200) ∧ (∃ t, N (63 + 8 * i) = nI t ∧ t ≤ 9) ∧ (∃ r, N (65 + 8 * i) = nI r ∧ r ≤ 6)
def OrdI (N : Nat → Int32) (j : Nat) : Prop := K3 (N (188 + 5 * j)) ∧ (∃ t, N (189 + 5 * j) = nI t ∧ 1 ≤ t ∧ t ≤ 9) ∧ (∃ p, N (190 + 5 * j) = nI p ∧ 1 ≤ p ∧ p ≤ 99)
def inI (v a b : Int32) : Int32 := if v < a then 0 else if b < v then 0 else 1
theorem inI_0 {v a b : Int32} : inI v a b = 0 ↔ (v < a ∨ b < v) := by unfold inI; split; simp_all; split <;> simp_all
theorem inI_p {x : Int32} {n : Nat} (hn : n < 2 ^ 30) : inI x 0 (nI n - 1) = if 0 ≤ x ∧ x < nI n then 1 else 0 := by
  have e : (nI n - 1).toInt = (n : Int) - 1 := by
    have := pk_sub_toInt (a := n) (b := 1) (by omega) (by omega)
    exact this
  have e2 := nI_toInt (n := n) (by omega)
  unfold inI
  simp only [Int32.lt_iff_toInt_lt, Int32.le_iff_toInt_le, Int32.toInt_zero, e, e2]
  (repeat' split) <;> first | rfl | (exfalso; omega)
theorem mx0 (v : Int32) : (if (0 : Int32) < v then v else 0) = mx v 0 := by
  unfold mx
  (repeat' split) <;> first | rfl | (exfalso; simp only [Int32.lt_iff_toInt_lt] at *; omega) | (rw [← Int32.toInt_inj]; simp only [Int32.lt_iff_toInt_lt, Int32.toInt_zero] at *; omega)
def hW (c why w : Int32) : Int32 := if c = 0 then why else if why = 0 then w else why
def hD (c why wha d : Int32) : Int32 := if c = 0 then wha else if why = 0 then d else wha
theorem kA_e : ∀ k, k < 3 → 2 * kArea k = kSm k := by decide +kernel
theorem crk_e : ∀ k, k < 3 → ∀ g, g < 10 → 1 ≤ g → ∀ b, b < 201 → ((thickK k (nI g) (nI b) = 0) ↔ ¬ (nI b < crackK k (nI g))) := by decide +kernel
theorem rng_e : ∀ t, t < 10 → (2 * nI t / 2 = nI t) ∧ 4 * nI t / 2 = 2 * nI t ∧ 1 * nI t / 2 = nI t / 2 := by decide +kernel
theorem mis_e : ∀ k, k < 3 → ∀ b, b < 201 → (mx (kSm k - nI b) 0 ≤ 0 ↔ ¬ nI b < kSm k) := by decide +kernel
theorem mist_e : ∀ a, a < 10 → ∀ t, t < 10 → (mx (nI a - nI t) 0 ≤ 0 ↔ ¬ nI t < nI a) ∧ (nI t < nI a → mx (nI a - nI t) 0 = nI a - nI t) := by decide +kernel
theorem tin_e {m : Int32} {a : Nat} (ha : a ≤ 9) : ∃ c, tinK m (nI a) = nI c ∧ c ≤ 9 := by
  have h1 : ∀ a, a < 10 → ∃ c, c < 10 ∧ mx (nI a) 3 = nI c := by decide +kernel
  unfold tinK
  split
  · obtain ⟨c, h2, h3⟩ := h1 a (by omega); exact ⟨c, h3, by omega⟩
  · exact ⟨a, rfl, ha⟩
theorem mxt_e : ∀ a, a < 10 → 1 ≤ a → (if nI a < (0 : Int32) then 0 else nI a) = nI a := by decide +kernel
theorem ring_e {x g b : Int32} {t : Nat} (hk : K3 x) (ht9 : t ≤ 9) : ringK (kOf x) g b (nI t) = if thickK (kOf x) g b = 0 then 0 else if b < kSm (kOf x) then (if x = 0 then 30 + 5 * thickK (kOf x) g b - nI t else if x = 1 then 50 + 4 * thickK (kOf x) g b - 2 * nI t else 10 + 3 * thickK (kOf x) g b - nI t / 2) else (if x = 0 then 30 + 5 * thickK (kOf x) g b - nI t else if x = 1 then 50 + 4 * thickK (kOf x) g b - 2 * nI t else 10 + 3 * thickK (kOf x) g b - nI t / 2) + 2 := by
  obtain ⟨r1, r2, r3⟩ := rng_e t (by omega)
  unfold ringK
  rcases hk.c with rfl | rfl | rfl
  · rw [show kBare (kOf 0) = 30 from rfl, show kThk (kOf 0) = 5 from rfl, show kHalf (kOf 0) = 2 from rfl, r1]; rfl
  · rw [show kBare (kOf 1) = 50 from rfl, show kThk (kOf 1) = 4 from rfl, show kHalf (kOf 1) = 4 from rfl, r2]; rfl
  · rw [show kBare (kOf 2) = 10 from rfl, show kThk (kOf 2) = 3 from rfl, show kHalf (kOf 2) = 1 from rfl, r3]; rfl
theorem hW_a {c why w wha d : Int32} (h : c = 0) : hW c why w = why ∧ hD c why wha d = wha := ⟨if_pos h, if_pos h⟩
theorem hW_b {c why w wha d : Int32} (h2 : ¬ why = 0) : hW c why w = why ∧ hD c why wha d = wha := by unfold hW hD; rw [if_neg h2, if_neg h2]; exact ⟨ite_self _, ite_self _⟩
theorem hW_c {c why w wha d : Int32} (h : ¬ c = 0) (h2 : why = 0) : hW c why w = w ∧ hD c why wha d = d := by unfold hW hD; rw [if_neg h, if_neg h, if_pos h2, if_pos h2]; exact ⟨rfl, rfl⟩
set_option maxRecDepth 100000 in
set_option maxHeartbeats 4000000 in
theorem ct_X12_isIn {l : Launch} {G : Gl} {h : Hp} (v a b : Int32) : CtR l G mX12_isIn 1 [.int v, .int a, .int b] h (some (.int (inI v a b))) h := by
  refine Ct.of (L := [(0, _), (1, _), (2, _)]) (by decide) (ble rfl) rfl ?_
  refine x_iload_n 0 dX12_isIn_0 rfl rfl ?_
  refine x_iload_n 1 dX12_isIn_1 rfl rfl ?_
  refine x_icmp_lt 14 dX12_isIn_2 (by decide) (fun c2 => ?_) (fun c2 => ?_)
  · refine x_iconst (v := 0) dX12_isIn_14 rfl ?_
    refine x_zret rfl (by first | (unfold inI; (repeat' split) <;> rfl) | (unfold soldK; split <;> rfl) | rfl | (split <;> rfl) | (unfold b2i; split <;> rfl)) dX12_isIn_15 ?_
    refine ⟨congrArg (fun z => some (Value.int z)) ?_, rfl⟩
    unfold inI
    (repeat' split) <;> first | rfl | contradiction | (simp_all; done) | (exfalso; simp only [Int32.lt_iff_toInt_lt, Int32.le_iff_toInt_le] at *; omega)
  · refine x_iload_n 0 dX12_isIn_5 rfl rfl ?_
    refine x_iload_n 2 dX12_isIn_6 rfl rfl ?_
    refine x_icmp_gt 14 dX12_isIn_7 (by decide) (fun c7 => ?_) (fun c7 => ?_)
    · refine x_iconst (v := 0) dX12_isIn_14 rfl ?_
      refine x_zret rfl (by first | (unfold inI; (repeat' split) <;> rfl) | (unfold soldK; split <;> rfl) | rfl | (split <;> rfl) | (unfold b2i; split <;> rfl)) dX12_isIn_15 ?_
      refine ⟨congrArg (fun z => some (Value.int z)) ?_, rfl⟩
      unfold inI
      (repeat' split) <;> first | rfl | contradiction | (simp_all; done) | (exfalso; simp only [Int32.lt_iff_toInt_lt, Int32.le_iff_toInt_le] at *; omega)
    · refine x_iconst (v := 1) dX12_isIn_10 rfl ?_
      refine x_goto 15 dX12_isIn_11 (by decide) ?_
      refine x_zret rfl (by first | (unfold inI; (repeat' split) <;> rfl) | (unfold soldK; split <;> rfl) | rfl | (split <;> rfl) | (unfold b2i; split <;> rfl)) dX12_isIn_15 ?_
      refine ⟨congrArg (fun z => some (Value.int z)) ?_, rfl⟩
      unfold inI
      (repeat' split) <;> first | rfl | contradiction | (simp_all; done) | (exfalso; simp only [Int32.lt_iff_toInt_lt, Int32.le_iff_toInt_le] at *; omega)
set_option maxRecDepth 100000 in
set_option maxHeartbeats 4000000 in
theorem ct_X12_areaOf {l : Launch} {G : Gl} {h : Hp} {x : Int32} (hk : K3 x) : CtR l G mX12_areaOf 1 [.int x] h (some (.int (kArea (kOf x)))) h := by
  refine Ct.of (L := [(0, _)]) (by decide) (ble rfl) rfl ?_
  refine x_iload_n 0 dX12_areaOf_0 rfl rfl ?_
  refine x_if_ne 9 dX12_areaOf_1 (by decide) (fun c1 => ?_) (fun c1 => ?_)
  · refine x_iload_n 0 dX12_areaOf_9 rfl rfl ?_
    refine x_iconst (v := 1) dX12_areaOf_10 rfl ?_
    refine x_icmp_ne 19 dX12_areaOf_11 (by decide) (fun c11 => ?_) (fun c11 => ?_)
    · refine x_bipush (v := 20) dX12_areaOf_19 rfl ?_
      refine x_iret rfl dX12_areaOf_21 ?_
      refine ⟨congrArg (fun z => some (Value.int z)) ?_, rfl⟩
      rcases hk.c with rfl | rfl | rfl <;> first | rfl | contradiction | (exfalso; revert c1; decide) | (exfalso; revert c11; decide) | (exfalso; revert c10; decide)
    · refine x_bipush (v := 8) dX12_areaOf_14 rfl ?_
      refine x_goto 21 dX12_areaOf_16 (by decide) ?_
      refine x_iret rfl dX12_areaOf_21 ?_
      refine ⟨congrArg (fun z => some (Value.int z)) ?_, rfl⟩
      rcases hk.c with rfl | rfl | rfl <;> first | rfl | contradiction | (exfalso; revert c1; decide) | (exfalso; revert c11; decide) | (exfalso; revert c10; decide)
  · refine x_bipush (v := 12) dX12_areaOf_4 rfl ?_
    refine x_goto 21 dX12_areaOf_6 (by decide) ?_
    refine x_iret rfl dX12_areaOf_21 ?_
    refine ⟨congrArg (fun z => some (Value.int z)) ?_, rfl⟩
    rcases hk.c with rfl | rfl | rfl <;> first | rfl | contradiction | (exfalso; revert c1; decide) | (exfalso; revert c11; decide) | (exfalso; revert c10; decide)
set_option maxRecDepth 100000 in
set_option maxHeartbeats 4000000 in
theorem ct_X12_mealsOf {l : Launch} {G : Gl} {h : Hp} {x : Int32} (hk : K3 x) : CtR l G mX12_mealsOf 1 [.int x] h (some (.int (kMeal (kOf x)))) h := by
  refine Ct.of (L := [(0, _)]) (by decide) (ble rfl) rfl ?_
  refine x_iload_n 0 dX12_mealsOf_0 rfl rfl ?_
  refine x_if_ne 8 dX12_mealsOf_1 (by decide) (fun c1 => ?_) (fun c1 => ?_)
  · refine x_iload_n 0 dX12_mealsOf_8 rfl rfl ?_
    refine x_iconst (v := 1) dX12_mealsOf_9 rfl ?_
    refine x_icmp_ne 17 dX12_mealsOf_10 (by decide) (fun c10 => ?_) (fun c10 => ?_)
    · refine x_bipush (v := 6) dX12_mealsOf_17 rfl ?_
      refine x_iret rfl dX12_mealsOf_19 ?_
      refine ⟨congrArg (fun z => some (Value.int z)) ?_, rfl⟩
      rcases hk.c with rfl | rfl | rfl <;> first | rfl | contradiction | (exfalso; revert c1; decide) | (exfalso; revert c11; decide) | (exfalso; revert c10; decide)
    · refine x_iconst (v := 2) dX12_mealsOf_13 rfl ?_
      refine x_goto 19 dX12_mealsOf_14 (by decide) ?_
      refine x_iret rfl dX12_mealsOf_19 ?_
      refine ⟨congrArg (fun z => some (Value.int z)) ?_, rfl⟩
      rcases hk.c with rfl | rfl | rfl <;> first | rfl | contradiction | (exfalso; revert c1; decide) | (exfalso; revert c11; decide) | (exfalso; revert c10; decide)
  · refine x_iconst (v := 4) dX12_mealsOf_4 rfl ?_
    refine x_goto 19 dX12_mealsOf_5 (by decide) ?_
    refine x_iret rfl dX12_mealsOf_19 ?_
    refine ⟨congrArg (fun z => some (Value.int z)) ?_, rfl⟩
    rcases hk.c with rfl | rfl | rfl <;> first | rfl | contradiction | (exfalso; revert c1; decide) | (exfalso; revert c11; decide) | (exfalso; revert c10; decide)
set_option maxRecDepth 100000 in
set_option maxHeartbeats 4000000 in
theorem ct_X12_isKind {l : Launch} {G : Gl} {h : Hp} (x : Int32) : CtR l G mX12_isKind 2 [.int x] h (some (.int (inI x 0 2))) h := by
  refine Ct.of (L := [(0, _)]) (by decide) (ble rfl) rfl ?_
  refine x_iload_n 0 dX12_isKind_0 rfl rfl ?_
  refine x_iconst (v := 0) dX12_isKind_1 rfl ?_
  refine x_iconst (v := 2) dX12_isKind_2 rfl ?_
  refine x_cS1 (As := [.int _, .int _, .int _]) (ct_X12_isIn _ _ _) vX12_74 rfl rfl ⟨ble rfl, ble rfl⟩ (ble rfl) dX12_isKind_3 rfl ?_
  refine x_zret rfl (by first | (unfold inI; (repeat' split) <;> rfl) | (unfold soldK; split <;> rfl) | rfl | (split <;> rfl) | (unfold b2i; split <;> rfl)) dX12_isKind_6 ?_
  exact ⟨rfl, rfl⟩
set_option maxRecDepth 100000 in
set_option maxHeartbeats 4000000 in
theorem ct_X12_thicknessBy {l : Launch} {G : Gl} {h : Hp} {x : Int32} (hk : K3 x) (g b : Int32) : CtR l G mX12_thicknessBy 2 [.int x, .int g, .int b] h (some (.int (thickK (kOf x) g b))) h := by
  refine Ct.of (L := [(0, _), (1, _), (2, _)]) (by decide) (ble rfl) rfl ?_
  refine x_iconst (v := 0) dX12_thicknessBy_0 rfl ?_
  refine x_iload_n 2 dX12_thicknessBy_1 rfl rfl ?_
  refine x_iconst (v := 2) dX12_thicknessBy_2 rfl ?_
  refine x_iload_n 0 dX12_thicknessBy_3 rfl rfl ?_
  refine x_cS1 (As := [.int _]) (ct_X12_areaOf (by assumption)) vX12_105 rfl rfl ⟨ble rfl, ble rfl⟩ (ble rfl) dX12_thicknessBy_4 rfl ?_
  refine x_imul dX12_thicknessBy_7 ?_
  refine x_isub dX12_thicknessBy_8 ?_
  refine x_mmax rfl wX12_108 wMmax2 wMath3 wMmax4 (ble rfl) (ble rfl) dX12_thicknessBy_9 ?_
  refine x_istore_n (L' := [(3, _), (0, _), (1, _), (2, _)]) dX12_thicknessBy_12 rfl (ble rfl) rfl ?_
  refine x_iconst (v := 0) dX12_thicknessBy_13 rfl ?_
  refine x_iload_n 2 dX12_thicknessBy_14 rfl rfl ?_
  refine x_iload_n 0 dX12_thicknessBy_15 rfl rfl ?_
  refine x_bipush (v := 6) dX12_thicknessBy_16 rfl ?_
  refine x_idiv dX12_thicknessBy_18 (by first | decide | assumption) ?_
  refine x_isub dX12_thicknessBy_19 ?_
  refine x_mmax rfl wX12_108 wMmax2 wMath3 wMmax4 (ble rfl) (ble rfl) dX12_thicknessBy_20 ?_
  refine x_iret rfl dX12_thicknessBy_23 ?_
  refine ⟨congrArg (fun z => some (Value.int z)) ?_, rfl⟩
  rw [mx0, mx0, kA_e _ hk.2]
  rfl
set_option maxRecDepth 100000 in
set_option maxHeartbeats 4000000 in
theorem ct_X12_barsBy {l : Launch} {G : Gl} {h : Hp} {x : Int32} (hk : K3 x) (y : Int32) : CtR l G mX12_barsBy 2 [.int x, .int y] h (some (.int ((kArea (kOf x) * y + 3) / 4))) h := by
  refine Ct.of (L := [(0, _), (1, _)]) (by decide) (ble rfl) rfl ?_
  refine x_iload_n 0 dX12_barsBy_0 rfl rfl ?_
  refine x_cS1 (As := [.int _]) (ct_X12_areaOf (by assumption)) vX12_105 rfl rfl ⟨ble rfl, ble rfl⟩ (ble rfl) dX12_barsBy_1 rfl ?_
  refine x_iload_n 1 dX12_barsBy_4 rfl rfl ?_
  refine x_imul dX12_barsBy_5 ?_
  refine x_iconst (v := 3) dX12_barsBy_6 rfl ?_
  refine x_iadd dX12_barsBy_7 ?_
  refine x_iconst (v := 4) dX12_barsBy_8 rfl ?_
  refine x_idiv dX12_barsBy_9 (by first | decide | assumption) ?_
  refine x_iret rfl dX12_barsBy_10 ?_
  exact ⟨rfl, rfl⟩
set_option maxRecDepth 100000 in
set_option maxHeartbeats 4000000 in
theorem ct_X12_soundBy {l : Launch} {G : Gl} {h : Hp} {x g b y : Int32} (hk : K3 x) (ht : ∃ t, y = nI t ∧ t ≤ 9) : CtR l G mX12_soundBy 3 [.int x, .int g, .int b, .int y] h (some (.int (ringK (kOf x) g b y))) h := by
  refine Ct.of (L := [(0, _), (1, _), (2, _), (3, _)]) (by decide) (ble rfl) rfl ?_
  refine x_iload_n 0 dX12_soundBy_0 rfl rfl ?_
  refine x_iload_n 1 dX12_soundBy_1 rfl rfl ?_
  refine x_iload_n 2 dX12_soundBy_2 rfl rfl ?_
  refine x_cS1 (As := [.int _, .int _, .int _]) (ct_X12_thicknessBy (by assumption) _ _) vX12_113 rfl rfl ⟨ble rfl, ble rfl⟩ (ble rfl) dX12_soundBy_3 rfl ?_
  refine x_istore (L' := [(4, _), (0, _), (1, _), (2, _), (3, _)]) dX12_soundBy_6 (ble rfl) rfl ?_
  refine x_iload_n 1 dX12_soundBy_8 rfl rfl ?_
  refine x_if_ne 24 dX12_soundBy_9 (by decide) (fun c9 => ?_) (fun c9 => ?_)
  · refine x_iload_n 1 dX12_soundBy_24 rfl rfl ?_
    refine x_iconst (v := 1) dX12_soundBy_25 rfl ?_
    refine x_icmp_ne 43 dX12_soundBy_26 (by decide) (fun c26 => ?_) (fun c26 => ?_)
    · refine x_bipush (v := 10) dX12_soundBy_43 rfl ?_
      refine x_iconst (v := 3) dX12_soundBy_45 rfl ?_
      refine x_iload 0 dX12_soundBy_46 rfl ?_
      refine x_imul dX12_soundBy_48 ?_
      refine x_iadd dX12_soundBy_49 ?_
      refine x_iload_n 4 dX12_soundBy_50 rfl rfl ?_
      refine x_iconst (v := 2) dX12_soundBy_51 rfl ?_
      refine x_idiv dX12_soundBy_52 (by first | decide | assumption) ?_
      refine x_isub dX12_soundBy_53 ?_
      refine x_istore (L' := [(5, _), (4, _), (0, _), (1, _), (2, _), (3, _)]) dX12_soundBy_54 (ble rfl) rfl ?_
      refine x_iload 1 dX12_soundBy_56 rfl ?_
      refine x_if_ne 65 dX12_soundBy_58 (by decide) (fun c58 => ?_) (fun c58 => ?_)
      · refine x_iload_n 4 dX12_soundBy_65 rfl rfl ?_
        refine x_iconst (v := 2) dX12_soundBy_66 rfl ?_
        refine x_iload_n 2 dX12_soundBy_67 rfl rfl ?_
        refine x_cS1 (As := [.int _]) (ct_X12_areaOf (by assumption)) vX12_105 rfl rfl ⟨ble rfl, ble rfl⟩ (ble rfl) dX12_soundBy_68 rfl ?_
        refine x_imul dX12_soundBy_71 ?_
        refine x_icmp_lt 82 dX12_soundBy_72 (by decide) (fun c72 => ?_) (fun c72 => ?_)
        · refine x_iload 0 dX12_soundBy_82 rfl ?_
          refine x_iret rfl dX12_soundBy_84 ?_
          refine ⟨congrArg (fun z => some (Value.int z)) ?_, rfl⟩
          obtain ⟨t, rfl, ht9⟩ := ht
          have e2 := kA_e _ hk.2
          rw [ring_e hk ht9]
          (try rw [e2] at c72)
          (repeat' split) <;> first | rfl | contradiction | (simp_all; done)
        · refine x_iload 0 dX12_soundBy_75 rfl ?_
          refine x_iconst (v := 2) dX12_soundBy_77 rfl ?_
          refine x_iadd dX12_soundBy_78 ?_
          refine x_goto 84 dX12_soundBy_79 (by decide) ?_
          refine x_iret rfl dX12_soundBy_84 ?_
          refine ⟨congrArg (fun z => some (Value.int z)) ?_, rfl⟩
          obtain ⟨t, rfl, ht9⟩ := ht
          have e2 := kA_e _ hk.2
          rw [ring_e hk ht9]
          (try rw [e2] at c72)
          (repeat' split) <;> first | rfl | contradiction | (simp_all; done)
      · refine x_iconst (v := 0) dX12_soundBy_61 rfl ?_
        refine x_goto 84 dX12_soundBy_62 (by decide) ?_
        refine x_iret rfl dX12_soundBy_84 ?_
        refine ⟨congrArg (fun z => some (Value.int z)) ?_, rfl⟩
        obtain ⟨t, rfl, ht9⟩ := ht
        have e2 := kA_e _ hk.2
        rw [ring_e hk ht9]
        (try rw [e2] at c72)
        (repeat' split) <;> first | rfl | contradiction | (simp_all; done)
    · refine x_bipush (v := 50) dX12_soundBy_29 rfl ?_
      refine x_iconst (v := 4) dX12_soundBy_31 rfl ?_
      refine x_iload 0 dX12_soundBy_32 rfl ?_
      refine x_imul dX12_soundBy_34 ?_
      refine x_iadd dX12_soundBy_35 ?_
      refine x_iconst (v := 2) dX12_soundBy_36 rfl ?_
      refine x_iload_n 4 dX12_soundBy_37 rfl rfl ?_
      refine x_imul dX12_soundBy_38 ?_
      refine x_isub dX12_soundBy_39 ?_
      refine x_goto 54 dX12_soundBy_40 (by decide) ?_
      refine x_istore (L' := [(5, _), (4, _), (0, _), (1, _), (2, _), (3, _)]) dX12_soundBy_54 (ble rfl) rfl ?_
      refine x_iload 1 dX12_soundBy_56 rfl ?_
      refine x_if_ne 65 dX12_soundBy_58 (by decide) (fun c58 => ?_) (fun c58 => ?_)
      · refine x_iload_n 4 dX12_soundBy_65 rfl rfl ?_
        refine x_iconst (v := 2) dX12_soundBy_66 rfl ?_
        refine x_iload_n 2 dX12_soundBy_67 rfl rfl ?_
        refine x_cS1 (As := [.int _]) (ct_X12_areaOf (by assumption)) vX12_105 rfl rfl ⟨ble rfl, ble rfl⟩ (ble rfl) dX12_soundBy_68 rfl ?_
        refine x_imul dX12_soundBy_71 ?_
        refine x_icmp_lt 82 dX12_soundBy_72 (by decide) (fun c72 => ?_) (fun c72 => ?_)
        · refine x_iload 0 dX12_soundBy_82 rfl ?_
          refine x_iret rfl dX12_soundBy_84 ?_
          refine ⟨congrArg (fun z => some (Value.int z)) ?_, rfl⟩
          obtain ⟨t, rfl, ht9⟩ := ht
          have e2 := kA_e _ hk.2
          rw [ring_e hk ht9]
          (try rw [e2] at c72)
          (repeat' split) <;> first | rfl | contradiction | (simp_all; done)
        · refine x_iload 0 dX12_soundBy_75 rfl ?_
          refine x_iconst (v := 2) dX12_soundBy_77 rfl ?_
          refine x_iadd dX12_soundBy_78 ?_
          refine x_goto 84 dX12_soundBy_79 (by decide) ?_
          refine x_iret rfl dX12_soundBy_84 ?_
          refine ⟨congrArg (fun z => some (Value.int z)) ?_, rfl⟩
          obtain ⟨t, rfl, ht9⟩ := ht
          have e2 := kA_e _ hk.2
          rw [ring_e hk ht9]
          (try rw [e2] at c72)
          (repeat' split) <;> first | rfl | contradiction | (simp_all; done)
      · refine x_iconst (v := 0) dX12_soundBy_61 rfl ?_
        refine x_goto 84 dX12_soundBy_62 (by decide) ?_
        refine x_iret rfl dX12_soundBy_84 ?_
        refine ⟨congrArg (fun z => some (Value.int z)) ?_, rfl⟩
        obtain ⟨t, rfl, ht9⟩ := ht
        have e2 := kA_e _ hk.2
        rw [ring_e hk ht9]
        (try rw [e2] at c72)
        (repeat' split) <;> first | rfl | contradiction | (simp_all; done)
  · refine x_bipush (v := 30) dX12_soundBy_12 rfl ?_
    refine x_iconst (v := 5) dX12_soundBy_14 rfl ?_
    refine x_iload 0 dX12_soundBy_15 rfl ?_
    refine x_imul dX12_soundBy_17 ?_
    refine x_iadd dX12_soundBy_18 ?_
    refine x_iload_n 4 dX12_soundBy_19 rfl rfl ?_
    refine x_isub dX12_soundBy_20 ?_
    refine x_goto 54 dX12_soundBy_21 (by decide) ?_
    refine x_istore (L' := [(5, _), (4, _), (0, _), (1, _), (2, _), (3, _)]) dX12_soundBy_54 (ble rfl) rfl ?_
    refine x_iload 1 dX12_soundBy_56 rfl ?_
    refine x_if_ne 65 dX12_soundBy_58 (by decide) (fun c58 => ?_) (fun c58 => ?_)
    · refine x_iload_n 4 dX12_soundBy_65 rfl rfl ?_
      refine x_iconst (v := 2) dX12_soundBy_66 rfl ?_
      refine x_iload_n 2 dX12_soundBy_67 rfl rfl ?_
      refine x_cS1 (As := [.int _]) (ct_X12_areaOf (by assumption)) vX12_105 rfl rfl ⟨ble rfl, ble rfl⟩ (ble rfl) dX12_soundBy_68 rfl ?_
      refine x_imul dX12_soundBy_71 ?_
      refine x_icmp_lt 82 dX12_soundBy_72 (by decide) (fun c72 => ?_) (fun c72 => ?_)
      · refine x_iload 0 dX12_soundBy_82 rfl ?_
        refine x_iret rfl dX12_soundBy_84 ?_
        refine ⟨congrArg (fun z => some (Value.int z)) ?_, rfl⟩
        obtain ⟨t, rfl, ht9⟩ := ht
        have e2 := kA_e _ hk.2
        rw [ring_e hk ht9]
        (try rw [e2] at c72)
        (repeat' split) <;> first | rfl | contradiction | (simp_all; done)
      · refine x_iload 0 dX12_soundBy_75 rfl ?_
        refine x_iconst (v := 2) dX12_soundBy_77 rfl ?_
        refine x_iadd dX12_soundBy_78 ?_
        refine x_goto 84 dX12_soundBy_79 (by decide) ?_
        refine x_iret rfl dX12_soundBy_84 ?_
        refine ⟨congrArg (fun z => some (Value.int z)) ?_, rfl⟩
        obtain ⟨t, rfl, ht9⟩ := ht
        have e2 := kA_e _ hk.2
        rw [ring_e hk ht9]
        (try rw [e2] at c72)
        (repeat' split) <;> first | rfl | contradiction | (simp_all; done)
    · refine x_iconst (v := 0) dX12_soundBy_61 rfl ?_
      refine x_goto 84 dX12_soundBy_62 (by decide) ?_
      refine x_iret rfl dX12_soundBy_84 ?_
      refine ⟨congrArg (fun z => some (Value.int z)) ?_, rfl⟩
      obtain ⟨t, rfl, ht9⟩ := ht
      have e2 := kA_e _ hk.2
      rw [ring_e hk ht9]
      (try rw [e2] at c72)
      (repeat' split) <;> first | rfl | contradiction | (simp_all; done)
set_option maxRecDepth 100000 in
set_option maxHeartbeats 4000000 in
theorem ct_X12_of_0 {l : Launch} {G : Gl} {h : Hp} {sv rem typ err lin why wha beh its siz att wro tol : Int32} {N : Nat → Int32} (ok : Ok G) {i : Nat} (hi : i < 16) : CtR l G mX12_of 1 [.ref (Ad G 20), .int (nI i), .int 0] (mH G h (eMd G sv rem typ err lin why wha beh its siz att wro tol) N) (some (.int (N (60 + 8 * i)))) (mH G h (eMd G sv rem typ err lin why wha beh its siz att wro tol) N) := by
  refine Ct.of (L := [(0, _), (1, _), (2, _)]) (by decide) (ble rfl) rfl ?_
  first | refine x_aload_n 0 dX12_of_0 rfl rfl ?_ | refine x_aload_nN 0 dX12_of_0 rfl rfl ?_
  refine x_get fX12_9 rfl dX12_of_1 (by with_reducible repeat first | assumption | exact mH_0 ok | exact mH_1 | exact hset_s | refine mH_o (by first | assumption | exact nA ok (by omega) (by omega) (by omega)) (by first | assumption | exact nA ok (by omega) (by omega) (by omega)) ?_ | refine hget_n (by first | assumption | exact Ne.symm (by assumption) | exact nA ok (by omega) (by omega) (by omega)) ?_) (by rfl) ?_
  refine x_bipush (v := 60) dX12_of_4 rfl ?_
  refine x_bipush (v := 8) dX12_of_6 rfl ?_
  refine x_iload_n 1 dX12_of_8 rfl rfl ?_
  refine x_imul dX12_of_9 ?_
  refine x_iadd dX12_of_10 ?_
  refine x_iload_n 2 dX12_of_11 rfl rfl ?_
  refine x_iadd dX12_of_12 ?_
  refine x_mald (i := 60 + 8 * i + 0) (v := N (60 + 8 * i)) (by first | exact Eq.refl (nI _) | exact ix_p _ _ | exact ix_o _ _ | exact ix_s _ | exact ix_s1 _ _ | (rw [ix_s]; exact nI_add _ _) | exact nI_add _ 1 | exact nI_add _ 2 | exact nI_add _ 3 | exact nI_add _ 4 | (rw [ix_o0]; exact nI_add _ 3) | (rw [ix_o0]; exact nI_add _ 4) | (rw [ix_o0]; exact nI_add _ _)) dX12_of_13 (by omega) (congrArg N (by omega)) ?_
  refine x_iret rfl dX12_of_14 ?_
  exact ⟨rfl, rfl⟩
set_option maxRecDepth 100000 in
set_option maxHeartbeats 4000000 in
theorem ct_X12_becomes_0 {l : Launch} {G : Gl} {h : Hp} {sv rem typ err lin why wha beh its siz att wro tol : Int32} {N : Nat → Int32} (ok : Ok G) {i : Nat} (hi : i < 16) (y : Int32) : CtR l G mX12_becomes 1 [.ref (Ad G 20), .int (nI i), .int 0, .int y] (mH G h (eMd G sv rem typ err lin why wha beh its siz att wro tol) N) (none) (mH G h (eMd G sv rem typ err lin why wha beh its siz att wro tol) (upd N (60 + 8 * i) y)) := by
  refine Ct.of (L := [(0, _), (1, _), (2, _), (3, _)]) (by decide) (ble rfl) rfl ?_
  first | refine x_aload_n 0 dX12_becomes_0 rfl rfl ?_ | refine x_aload_nN 0 dX12_becomes_0 rfl rfl ?_
  refine x_get fX12_9 rfl dX12_becomes_1 (by with_reducible repeat first | assumption | exact mH_0 ok | exact mH_1 | exact hset_s | refine mH_o (by first | assumption | exact nA ok (by omega) (by omega) (by omega)) (by first | assumption | exact nA ok (by omega) (by omega) (by omega)) ?_ | refine hget_n (by first | assumption | exact Ne.symm (by assumption) | exact nA ok (by omega) (by omega) (by omega)) ?_) (by rfl) ?_
  refine x_bipush (v := 60) dX12_becomes_4 rfl ?_
  refine x_bipush (v := 8) dX12_becomes_6 rfl ?_
  refine x_iload_n 1 dX12_becomes_8 rfl rfl ?_
  refine x_imul dX12_becomes_9 ?_
  refine x_iadd dX12_becomes_10 ?_
  refine x_iload_n 2 dX12_becomes_11 rfl rfl ?_
  refine x_iadd dX12_becomes_12 ?_
  refine x_iload_n 3 dX12_becomes_13 rfl rfl ?_
  refine x_mast (i := 60 + 8 * i + 0) ok (by first | exact Eq.refl (nI _) | exact ix_p _ _ | exact ix_o _ _ | exact ix_s _ | exact ix_s1 _ _ | (rw [ix_s]; exact nI_add _ _) | exact nI_add _ 1 | exact nI_add _ 2 | exact nI_add _ 3 | exact nI_add _ 4 | (rw [ix_o0]; exact nI_add _ 3) | (rw [ix_o0]; exact nI_add _ 4) | (rw [ix_o0]; exact nI_add _ _)) dX12_becomes_14 (by omega) ?_
  refine x_vret rfl dX12_becomes_15 ?_
  exact ⟨rfl, by rw [show 60 + 8 * i + 0 = 60 + 8 * i by omega]⟩
set_option maxRecDepth 100000 in
set_option maxHeartbeats 4000000 in
theorem ct_X12_of_1 {l : Launch} {G : Gl} {h : Hp} {sv rem typ err lin why wha beh its siz att wro tol : Int32} {N : Nat → Int32} (ok : Ok G) {i : Nat} (hi : i < 16) : CtR l G mX12_of 1 [.ref (Ad G 20), .int (nI i), .int 1] (mH G h (eMd G sv rem typ err lin why wha beh its siz att wro tol) N) (some (.int (N (61 + 8 * i)))) (mH G h (eMd G sv rem typ err lin why wha beh its siz att wro tol) N) := by
  refine Ct.of (L := [(0, _), (1, _), (2, _)]) (by decide) (ble rfl) rfl ?_
  first | refine x_aload_n 0 dX12_of_0 rfl rfl ?_ | refine x_aload_nN 0 dX12_of_0 rfl rfl ?_
  refine x_get fX12_9 rfl dX12_of_1 (by with_reducible repeat first | assumption | exact mH_0 ok | exact mH_1 | exact hset_s | refine mH_o (by first | assumption | exact nA ok (by omega) (by omega) (by omega)) (by first | assumption | exact nA ok (by omega) (by omega) (by omega)) ?_ | refine hget_n (by first | assumption | exact Ne.symm (by assumption) | exact nA ok (by omega) (by omega) (by omega)) ?_) (by rfl) ?_
  refine x_bipush (v := 60) dX12_of_4 rfl ?_
  refine x_bipush (v := 8) dX12_of_6 rfl ?_
  refine x_iload_n 1 dX12_of_8 rfl rfl ?_
  refine x_imul dX12_of_9 ?_
  refine x_iadd dX12_of_10 ?_
  refine x_iload_n 2 dX12_of_11 rfl rfl ?_
  refine x_iadd dX12_of_12 ?_
  refine x_mald (i := 60 + 8 * i + 1) (v := N (61 + 8 * i)) (by first | exact Eq.refl (nI _) | exact ix_p _ _ | exact ix_o _ _ | exact ix_s _ | exact ix_s1 _ _ | (rw [ix_s]; exact nI_add _ _) | exact nI_add _ 1 | exact nI_add _ 2 | exact nI_add _ 3 | exact nI_add _ 4 | (rw [ix_o0]; exact nI_add _ 3) | (rw [ix_o0]; exact nI_add _ 4) | (rw [ix_o0]; exact nI_add _ _)) dX12_of_13 (by omega) (congrArg N (by omega)) ?_
  refine x_iret rfl dX12_of_14 ?_
  exact ⟨rfl, rfl⟩
set_option maxRecDepth 100000 in
set_option maxHeartbeats 4000000 in
theorem ct_X12_becomes_1 {l : Launch} {G : Gl} {h : Hp} {sv rem typ err lin why wha beh its siz att wro tol : Int32} {N : Nat → Int32} (ok : Ok G) {i : Nat} (hi : i < 16) (y : Int32) : CtR l G mX12_becomes 1 [.ref (Ad G 20), .int (nI i), .int 1, .int y] (mH G h (eMd G sv rem typ err lin why wha beh its siz att wro tol) N) (none) (mH G h (eMd G sv rem typ err lin why wha beh its siz att wro tol) (upd N (61 + 8 * i) y)) := by
  refine Ct.of (L := [(0, _), (1, _), (2, _), (3, _)]) (by decide) (ble rfl) rfl ?_
  first | refine x_aload_n 0 dX12_becomes_0 rfl rfl ?_ | refine x_aload_nN 0 dX12_becomes_0 rfl rfl ?_
  refine x_get fX12_9 rfl dX12_becomes_1 (by with_reducible repeat first | assumption | exact mH_0 ok | exact mH_1 | exact hset_s | refine mH_o (by first | assumption | exact nA ok (by omega) (by omega) (by omega)) (by first | assumption | exact nA ok (by omega) (by omega) (by omega)) ?_ | refine hget_n (by first | assumption | exact Ne.symm (by assumption) | exact nA ok (by omega) (by omega) (by omega)) ?_) (by rfl) ?_
  refine x_bipush (v := 60) dX12_becomes_4 rfl ?_
  refine x_bipush (v := 8) dX12_becomes_6 rfl ?_
  refine x_iload_n 1 dX12_becomes_8 rfl rfl ?_
  refine x_imul dX12_becomes_9 ?_
  refine x_iadd dX12_becomes_10 ?_
  refine x_iload_n 2 dX12_becomes_11 rfl rfl ?_
  refine x_iadd dX12_becomes_12 ?_
  refine x_iload_n 3 dX12_becomes_13 rfl rfl ?_
  refine x_mast (i := 60 + 8 * i + 1) ok (by first | exact Eq.refl (nI _) | exact ix_p _ _ | exact ix_o _ _ | exact ix_s _ | exact ix_s1 _ _ | (rw [ix_s]; exact nI_add _ _) | exact nI_add _ 1 | exact nI_add _ 2 | exact nI_add _ 3 | exact nI_add _ 4 | (rw [ix_o0]; exact nI_add _ 3) | (rw [ix_o0]; exact nI_add _ 4) | (rw [ix_o0]; exact nI_add _ _)) dX12_becomes_14 (by omega) ?_
  refine x_vret rfl dX12_becomes_15 ?_
  exact ⟨rfl, by rw [show 60 + 8 * i + 1 = 61 + 8 * i by omega]⟩
set_option maxRecDepth 100000 in
set_option maxHeartbeats 4000000 in
theorem ct_X12_of_2 {l : Launch} {G : Gl} {h : Hp} {sv rem typ err lin why wha beh its siz att wro tol : Int32} {N : Nat → Int32} (ok : Ok G) {i : Nat} (hi : i < 16) : CtR l G mX12_of 1 [.ref (Ad G 20), .int (nI i), .int 2] (mH G h (eMd G sv rem typ err lin why wha beh its siz att wro tol) N) (some (.int (N (62 + 8 * i)))) (mH G h (eMd G sv rem typ err lin why wha beh its siz att wro tol) N) := by
  refine Ct.of (L := [(0, _), (1, _), (2, _)]) (by decide) (ble rfl) rfl ?_
  first | refine x_aload_n 0 dX12_of_0 rfl rfl ?_ | refine x_aload_nN 0 dX12_of_0 rfl rfl ?_
  refine x_get fX12_9 rfl dX12_of_1 (by with_reducible repeat first | assumption | exact mH_0 ok | exact mH_1 | exact hset_s | refine mH_o (by first | assumption | exact nA ok (by omega) (by omega) (by omega)) (by first | assumption | exact nA ok (by omega) (by omega) (by omega)) ?_ | refine hget_n (by first | assumption | exact Ne.symm (by assumption) | exact nA ok (by omega) (by omega) (by omega)) ?_) (by rfl) ?_
  refine x_bipush (v := 60) dX12_of_4 rfl ?_
  refine x_bipush (v := 8) dX12_of_6 rfl ?_
  refine x_iload_n 1 dX12_of_8 rfl rfl ?_
  refine x_imul dX12_of_9 ?_
  refine x_iadd dX12_of_10 ?_
  refine x_iload_n 2 dX12_of_11 rfl rfl ?_
  refine x_iadd dX12_of_12 ?_
  refine x_mald (i := 60 + 8 * i + 2) (v := N (62 + 8 * i)) (by first | exact Eq.refl (nI _) | exact ix_p _ _ | exact ix_o _ _ | exact ix_s _ | exact ix_s1 _ _ | (rw [ix_s]; exact nI_add _ _) | exact nI_add _ 1 | exact nI_add _ 2 | exact nI_add _ 3 | exact nI_add _ 4 | (rw [ix_o0]; exact nI_add _ 3) | (rw [ix_o0]; exact nI_add _ 4) | (rw [ix_o0]; exact nI_add _ _)) dX12_of_13 (by omega) (congrArg N (by omega)) ?_
  refine x_iret rfl dX12_of_14 ?_
  exact ⟨rfl, rfl⟩
set_option maxRecDepth 100000 in
set_option maxHeartbeats 4000000 in
theorem ct_X12_becomes_2 {l : Launch} {G : Gl} {h : Hp} {sv rem typ err lin why wha beh its siz att wro tol : Int32} {N : Nat → Int32} (ok : Ok G) {i : Nat} (hi : i < 16) (y : Int32) : CtR l G mX12_becomes 1 [.ref (Ad G 20), .int (nI i), .int 2, .int y] (mH G h (eMd G sv rem typ err lin why wha beh its siz att wro tol) N) (none) (mH G h (eMd G sv rem typ err lin why wha beh its siz att wro tol) (upd N (62 + 8 * i) y)) := by
  refine Ct.of (L := [(0, _), (1, _), (2, _), (3, _)]) (by decide) (ble rfl) rfl ?_
  first | refine x_aload_n 0 dX12_becomes_0 rfl rfl ?_ | refine x_aload_nN 0 dX12_becomes_0 rfl rfl ?_
  refine x_get fX12_9 rfl dX12_becomes_1 (by with_reducible repeat first | assumption | exact mH_0 ok | exact mH_1 | exact hset_s | refine mH_o (by first | assumption | exact nA ok (by omega) (by omega) (by omega)) (by first | assumption | exact nA ok (by omega) (by omega) (by omega)) ?_ | refine hget_n (by first | assumption | exact Ne.symm (by assumption) | exact nA ok (by omega) (by omega) (by omega)) ?_) (by rfl) ?_
  refine x_bipush (v := 60) dX12_becomes_4 rfl ?_
  refine x_bipush (v := 8) dX12_becomes_6 rfl ?_
  refine x_iload_n 1 dX12_becomes_8 rfl rfl ?_
  refine x_imul dX12_becomes_9 ?_
  refine x_iadd dX12_becomes_10 ?_
  refine x_iload_n 2 dX12_becomes_11 rfl rfl ?_
  refine x_iadd dX12_becomes_12 ?_
  refine x_iload_n 3 dX12_becomes_13 rfl rfl ?_
  refine x_mast (i := 60 + 8 * i + 2) ok (by first | exact Eq.refl (nI _) | exact ix_p _ _ | exact ix_o _ _ | exact ix_s _ | exact ix_s1 _ _ | (rw [ix_s]; exact nI_add _ _) | exact nI_add _ 1 | exact nI_add _ 2 | exact nI_add _ 3 | exact nI_add _ 4 | (rw [ix_o0]; exact nI_add _ 3) | (rw [ix_o0]; exact nI_add _ 4) | (rw [ix_o0]; exact nI_add _ _)) dX12_becomes_14 (by omega) ?_
  refine x_vret rfl dX12_becomes_15 ?_
  exact ⟨rfl, by rw [show 60 + 8 * i + 2 = 62 + 8 * i by omega]⟩
set_option maxRecDepth 100000 in
set_option maxHeartbeats 4000000 in
theorem ct_X12_of_3 {l : Launch} {G : Gl} {h : Hp} {sv rem typ err lin why wha beh its siz att wro tol : Int32} {N : Nat → Int32} (ok : Ok G) {i : Nat} (hi : i < 16) : CtR l G mX12_of 1 [.ref (Ad G 20), .int (nI i), .int 3] (mH G h (eMd G sv rem typ err lin why wha beh its siz att wro tol) N) (some (.int (N (63 + 8 * i)))) (mH G h (eMd G sv rem typ err lin why wha beh its siz att wro tol) N) := by
  refine Ct.of (L := [(0, _), (1, _), (2, _)]) (by decide) (ble rfl) rfl ?_
  first | refine x_aload_n 0 dX12_of_0 rfl rfl ?_ | refine x_aload_nN 0 dX12_of_0 rfl rfl ?_
  refine x_get fX12_9 rfl dX12_of_1 (by with_reducible repeat first | assumption | exact mH_0 ok | exact mH_1 | exact hset_s | refine mH_o (by first | assumption | exact nA ok (by omega) (by omega) (by omega)) (by first | assumption | exact nA ok (by omega) (by omega) (by omega)) ?_ | refine hget_n (by first | assumption | exact Ne.symm (by assumption) | exact nA ok (by omega) (by omega) (by omega)) ?_) (by rfl) ?_
  refine x_bipush (v := 60) dX12_of_4 rfl ?_
  refine x_bipush (v := 8) dX12_of_6 rfl ?_
  refine x_iload_n 1 dX12_of_8 rfl rfl ?_
  refine x_imul dX12_of_9 ?_
  refine x_iadd dX12_of_10 ?_
  refine x_iload_n 2 dX12_of_11 rfl rfl ?_
  refine x_iadd dX12_of_12 ?_
  refine x_mald (i := 60 + 8 * i + 3) (v := N (63 + 8 * i)) (by first | exact Eq.refl (nI _) | exact ix_p _ _ | exact ix_o _ _ | exact ix_s _ | exact ix_s1 _ _ | (rw [ix_s]; exact nI_add _ _) | exact nI_add _ 1 | exact nI_add _ 2 | exact nI_add _ 3 | exact nI_add _ 4 | (rw [ix_o0]; exact nI_add _ 3) | (rw [ix_o0]; exact nI_add _ 4) | (rw [ix_o0]; exact nI_add _ _)) dX12_of_13 (by omega) (congrArg N (by omega)) ?_
  refine x_iret rfl dX12_of_14 ?_
  exact ⟨rfl, rfl⟩
set_option maxRecDepth 100000 in
set_option maxHeartbeats 4000000 in
theorem ct_X12_becomes_3 {l : Launch} {G : Gl} {h : Hp} {sv rem typ err lin why wha beh its siz att wro tol : Int32} {N : Nat → Int32} (ok : Ok G) {i : Nat} (hi : i < 16) (y : Int32) : CtR l G mX12_becomes 1 [.ref (Ad G 20), .int (nI i), .int 3, .int y] (mH G h (eMd G sv rem typ err lin why wha beh its siz att wro tol) N) (none) (mH G h (eMd G sv rem typ err lin why wha beh its siz att wro tol) (upd N (63 + 8 * i) y)) := by
  refine Ct.of (L := [(0, _), (1, _), (2, _), (3, _)]) (by decide) (ble rfl) rfl ?_
  first | refine x_aload_n 0 dX12_becomes_0 rfl rfl ?_ | refine x_aload_nN 0 dX12_becomes_0 rfl rfl ?_
  refine x_get fX12_9 rfl dX12_becomes_1 (by with_reducible repeat first | assumption | exact mH_0 ok | exact mH_1 | exact hset_s | refine mH_o (by first | assumption | exact nA ok (by omega) (by omega) (by omega)) (by first | assumption | exact nA ok (by omega) (by omega) (by omega)) ?_ | refine hget_n (by first | assumption | exact Ne.symm (by assumption) | exact nA ok (by omega) (by omega) (by omega)) ?_) (by rfl) ?_
  refine x_bipush (v := 60) dX12_becomes_4 rfl ?_
  refine x_bipush (v := 8) dX12_becomes_6 rfl ?_
  refine x_iload_n 1 dX12_becomes_8 rfl rfl ?_
  refine x_imul dX12_becomes_9 ?_
  refine x_iadd dX12_becomes_10 ?_
  refine x_iload_n 2 dX12_becomes_11 rfl rfl ?_
  refine x_iadd dX12_becomes_12 ?_
  refine x_iload_n 3 dX12_becomes_13 rfl rfl ?_
  refine x_mast (i := 60 + 8 * i + 3) ok (by first | exact Eq.refl (nI _) | exact ix_p _ _ | exact ix_o _ _ | exact ix_s _ | exact ix_s1 _ _ | (rw [ix_s]; exact nI_add _ _) | exact nI_add _ 1 | exact nI_add _ 2 | exact nI_add _ 3 | exact nI_add _ 4 | (rw [ix_o0]; exact nI_add _ 3) | (rw [ix_o0]; exact nI_add _ 4) | (rw [ix_o0]; exact nI_add _ _)) dX12_becomes_14 (by omega) ?_
  refine x_vret rfl dX12_becomes_15 ?_
  exact ⟨rfl, by rw [show 60 + 8 * i + 3 = 63 + 8 * i by omega]⟩
set_option maxRecDepth 100000 in
set_option maxHeartbeats 4000000 in
theorem ct_X12_of_4 {l : Launch} {G : Gl} {h : Hp} {sv rem typ err lin why wha beh its siz att wro tol : Int32} {N : Nat → Int32} (ok : Ok G) {i : Nat} (hi : i < 16) : CtR l G mX12_of 1 [.ref (Ad G 20), .int (nI i), .int 4] (mH G h (eMd G sv rem typ err lin why wha beh its siz att wro tol) N) (some (.int (N (64 + 8 * i)))) (mH G h (eMd G sv rem typ err lin why wha beh its siz att wro tol) N) := by
  refine Ct.of (L := [(0, _), (1, _), (2, _)]) (by decide) (ble rfl) rfl ?_
  first | refine x_aload_n 0 dX12_of_0 rfl rfl ?_ | refine x_aload_nN 0 dX12_of_0 rfl rfl ?_
  refine x_get fX12_9 rfl dX12_of_1 (by with_reducible repeat first | assumption | exact mH_0 ok | exact mH_1 | exact hset_s | refine mH_o (by first | assumption | exact nA ok (by omega) (by omega) (by omega)) (by first | assumption | exact nA ok (by omega) (by omega) (by omega)) ?_ | refine hget_n (by first | assumption | exact Ne.symm (by assumption) | exact nA ok (by omega) (by omega) (by omega)) ?_) (by rfl) ?_
  refine x_bipush (v := 60) dX12_of_4 rfl ?_
  refine x_bipush (v := 8) dX12_of_6 rfl ?_
  refine x_iload_n 1 dX12_of_8 rfl rfl ?_
  refine x_imul dX12_of_9 ?_
  refine x_iadd dX12_of_10 ?_
  refine x_iload_n 2 dX12_of_11 rfl rfl ?_
  refine x_iadd dX12_of_12 ?_
  refine x_mald (i := 60 + 8 * i + 4) (v := N (64 + 8 * i)) (by first | exact Eq.refl (nI _) | exact ix_p _ _ | exact ix_o _ _ | exact ix_s _ | exact ix_s1 _ _ | (rw [ix_s]; exact nI_add _ _) | exact nI_add _ 1 | exact nI_add _ 2 | exact nI_add _ 3 | exact nI_add _ 4 | (rw [ix_o0]; exact nI_add _ 3) | (rw [ix_o0]; exact nI_add _ 4) | (rw [ix_o0]; exact nI_add _ _)) dX12_of_13 (by omega) (congrArg N (by omega)) ?_
  refine x_iret rfl dX12_of_14 ?_
  exact ⟨rfl, rfl⟩
set_option maxRecDepth 100000 in
set_option maxHeartbeats 4000000 in
theorem ct_X12_becomes_4 {l : Launch} {G : Gl} {h : Hp} {sv rem typ err lin why wha beh its siz att wro tol : Int32} {N : Nat → Int32} (ok : Ok G) {i : Nat} (hi : i < 16) (y : Int32) : CtR l G mX12_becomes 1 [.ref (Ad G 20), .int (nI i), .int 4, .int y] (mH G h (eMd G sv rem typ err lin why wha beh its siz att wro tol) N) (none) (mH G h (eMd G sv rem typ err lin why wha beh its siz att wro tol) (upd N (64 + 8 * i) y)) := by
  refine Ct.of (L := [(0, _), (1, _), (2, _), (3, _)]) (by decide) (ble rfl) rfl ?_
  first | refine x_aload_n 0 dX12_becomes_0 rfl rfl ?_ | refine x_aload_nN 0 dX12_becomes_0 rfl rfl ?_
  refine x_get fX12_9 rfl dX12_becomes_1 (by with_reducible repeat first | assumption | exact mH_0 ok | exact mH_1 | exact hset_s | refine mH_o (by first | assumption | exact nA ok (by omega) (by omega) (by omega)) (by first | assumption | exact nA ok (by omega) (by omega) (by omega)) ?_ | refine hget_n (by first | assumption | exact Ne.symm (by assumption) | exact nA ok (by omega) (by omega) (by omega)) ?_) (by rfl) ?_
  refine x_bipush (v := 60) dX12_becomes_4 rfl ?_
  refine x_bipush (v := 8) dX12_becomes_6 rfl ?_
  refine x_iload_n 1 dX12_becomes_8 rfl rfl ?_
  refine x_imul dX12_becomes_9 ?_
  refine x_iadd dX12_becomes_10 ?_
  refine x_iload_n 2 dX12_becomes_11 rfl rfl ?_
  refine x_iadd dX12_becomes_12 ?_
  refine x_iload_n 3 dX12_becomes_13 rfl rfl ?_
  refine x_mast (i := 60 + 8 * i + 4) ok (by first | exact Eq.refl (nI _) | exact ix_p _ _ | exact ix_o _ _ | exact ix_s _ | exact ix_s1 _ _ | (rw [ix_s]; exact nI_add _ _) | exact nI_add _ 1 | exact nI_add _ 2 | exact nI_add _ 3 | exact nI_add _ 4 | (rw [ix_o0]; exact nI_add _ 3) | (rw [ix_o0]; exact nI_add _ 4) | (rw [ix_o0]; exact nI_add _ _)) dX12_becomes_14 (by omega) ?_
  refine x_vret rfl dX12_becomes_15 ?_
  exact ⟨rfl, by rw [show 60 + 8 * i + 4 = 64 + 8 * i by omega]⟩
set_option maxRecDepth 100000 in
set_option maxHeartbeats 4000000 in
theorem ct_X12_of_5 {l : Launch} {G : Gl} {h : Hp} {sv rem typ err lin why wha beh its siz att wro tol : Int32} {N : Nat → Int32} (ok : Ok G) {i : Nat} (hi : i < 16) : CtR l G mX12_of 1 [.ref (Ad G 20), .int (nI i), .int 5] (mH G h (eMd G sv rem typ err lin why wha beh its siz att wro tol) N) (some (.int (N (65 + 8 * i)))) (mH G h (eMd G sv rem typ err lin why wha beh its siz att wro tol) N) := by
  refine Ct.of (L := [(0, _), (1, _), (2, _)]) (by decide) (ble rfl) rfl ?_
  first | refine x_aload_n 0 dX12_of_0 rfl rfl ?_ | refine x_aload_nN 0 dX12_of_0 rfl rfl ?_
  refine x_get fX12_9 rfl dX12_of_1 (by with_reducible repeat first | assumption | exact mH_0 ok | exact mH_1 | exact hset_s | refine mH_o (by first | assumption | exact nA ok (by omega) (by omega) (by omega)) (by first | assumption | exact nA ok (by omega) (by omega) (by omega)) ?_ | refine hget_n (by first | assumption | exact Ne.symm (by assumption) | exact nA ok (by omega) (by omega) (by omega)) ?_) (by rfl) ?_
  refine x_bipush (v := 60) dX12_of_4 rfl ?_
  refine x_bipush (v := 8) dX12_of_6 rfl ?_
  refine x_iload_n 1 dX12_of_8 rfl rfl ?_
  refine x_imul dX12_of_9 ?_
  refine x_iadd dX12_of_10 ?_
  refine x_iload_n 2 dX12_of_11 rfl rfl ?_
  refine x_iadd dX12_of_12 ?_
  refine x_mald (i := 60 + 8 * i + 5) (v := N (65 + 8 * i)) (by first | exact Eq.refl (nI _) | exact ix_p _ _ | exact ix_o _ _ | exact ix_s _ | exact ix_s1 _ _ | (rw [ix_s]; exact nI_add _ _) | exact nI_add _ 1 | exact nI_add _ 2 | exact nI_add _ 3 | exact nI_add _ 4 | (rw [ix_o0]; exact nI_add _ 3) | (rw [ix_o0]; exact nI_add _ 4) | (rw [ix_o0]; exact nI_add _ _)) dX12_of_13 (by omega) (congrArg N (by omega)) ?_
  refine x_iret rfl dX12_of_14 ?_
  exact ⟨rfl, rfl⟩
set_option maxRecDepth 100000 in
set_option maxHeartbeats 4000000 in
theorem ct_X12_becomes_5 {l : Launch} {G : Gl} {h : Hp} {sv rem typ err lin why wha beh its siz att wro tol : Int32} {N : Nat → Int32} (ok : Ok G) {i : Nat} (hi : i < 16) (y : Int32) : CtR l G mX12_becomes 1 [.ref (Ad G 20), .int (nI i), .int 5, .int y] (mH G h (eMd G sv rem typ err lin why wha beh its siz att wro tol) N) (none) (mH G h (eMd G sv rem typ err lin why wha beh its siz att wro tol) (upd N (65 + 8 * i) y)) := by
  refine Ct.of (L := [(0, _), (1, _), (2, _), (3, _)]) (by decide) (ble rfl) rfl ?_
  first | refine x_aload_n 0 dX12_becomes_0 rfl rfl ?_ | refine x_aload_nN 0 dX12_becomes_0 rfl rfl ?_
  refine x_get fX12_9 rfl dX12_becomes_1 (by with_reducible repeat first | assumption | exact mH_0 ok | exact mH_1 | exact hset_s | refine mH_o (by first | assumption | exact nA ok (by omega) (by omega) (by omega)) (by first | assumption | exact nA ok (by omega) (by omega) (by omega)) ?_ | refine hget_n (by first | assumption | exact Ne.symm (by assumption) | exact nA ok (by omega) (by omega) (by omega)) ?_) (by rfl) ?_
  refine x_bipush (v := 60) dX12_becomes_4 rfl ?_
  refine x_bipush (v := 8) dX12_becomes_6 rfl ?_
  refine x_iload_n 1 dX12_becomes_8 rfl rfl ?_
  refine x_imul dX12_becomes_9 ?_
  refine x_iadd dX12_becomes_10 ?_
  refine x_iload_n 2 dX12_becomes_11 rfl rfl ?_
  refine x_iadd dX12_becomes_12 ?_
  refine x_iload_n 3 dX12_becomes_13 rfl rfl ?_
  refine x_mast (i := 60 + 8 * i + 5) ok (by first | exact Eq.refl (nI _) | exact ix_p _ _ | exact ix_o _ _ | exact ix_s _ | exact ix_s1 _ _ | (rw [ix_s]; exact nI_add _ _) | exact nI_add _ 1 | exact nI_add _ 2 | exact nI_add _ 3 | exact nI_add _ 4 | (rw [ix_o0]; exact nI_add _ 3) | (rw [ix_o0]; exact nI_add _ 4) | (rw [ix_o0]; exact nI_add _ _)) dX12_becomes_14 (by omega) ?_
  refine x_vret rfl dX12_becomes_15 ?_
  exact ⟨rfl, by rw [show 60 + 8 * i + 5 = 65 + 8 * i by omega]⟩
set_option maxRecDepth 100000 in
set_option maxHeartbeats 4000000 in
theorem ct_X12_of_6 {l : Launch} {G : Gl} {h : Hp} {sv rem typ err lin why wha beh its siz att wro tol : Int32} {N : Nat → Int32} (ok : Ok G) {i : Nat} (hi : i < 16) : CtR l G mX12_of 1 [.ref (Ad G 20), .int (nI i), .int 6] (mH G h (eMd G sv rem typ err lin why wha beh its siz att wro tol) N) (some (.int (N (66 + 8 * i)))) (mH G h (eMd G sv rem typ err lin why wha beh its siz att wro tol) N) := by
  refine Ct.of (L := [(0, _), (1, _), (2, _)]) (by decide) (ble rfl) rfl ?_
  first | refine x_aload_n 0 dX12_of_0 rfl rfl ?_ | refine x_aload_nN 0 dX12_of_0 rfl rfl ?_
  refine x_get fX12_9 rfl dX12_of_1 (by with_reducible repeat first | assumption | exact mH_0 ok | exact mH_1 | exact hset_s | refine mH_o (by first | assumption | exact nA ok (by omega) (by omega) (by omega)) (by first | assumption | exact nA ok (by omega) (by omega) (by omega)) ?_ | refine hget_n (by first | assumption | exact Ne.symm (by assumption) | exact nA ok (by omega) (by omega) (by omega)) ?_) (by rfl) ?_
  refine x_bipush (v := 60) dX12_of_4 rfl ?_
  refine x_bipush (v := 8) dX12_of_6 rfl ?_
  refine x_iload_n 1 dX12_of_8 rfl rfl ?_
  refine x_imul dX12_of_9 ?_
  refine x_iadd dX12_of_10 ?_
  refine x_iload_n 2 dX12_of_11 rfl rfl ?_
  refine x_iadd dX12_of_12 ?_
  refine x_mald (i := 60 + 8 * i + 6) (v := N (66 + 8 * i)) (by first | exact Eq.refl (nI _) | exact ix_p _ _ | exact ix_o _ _ | exact ix_s _ | exact ix_s1 _ _ | (rw [ix_s]; exact nI_add _ _) | exact nI_add _ 1 | exact nI_add _ 2 | exact nI_add _ 3 | exact nI_add _ 4 | (rw [ix_o0]; exact nI_add _ 3) | (rw [ix_o0]; exact nI_add _ 4) | (rw [ix_o0]; exact nI_add _ _)) dX12_of_13 (by omega) (congrArg N (by omega)) ?_
  refine x_iret rfl dX12_of_14 ?_
  exact ⟨rfl, rfl⟩
set_option maxRecDepth 100000 in
set_option maxHeartbeats 4000000 in
theorem ct_X12_becomes_6 {l : Launch} {G : Gl} {h : Hp} {sv rem typ err lin why wha beh its siz att wro tol : Int32} {N : Nat → Int32} (ok : Ok G) {i : Nat} (hi : i < 16) (y : Int32) : CtR l G mX12_becomes 1 [.ref (Ad G 20), .int (nI i), .int 6, .int y] (mH G h (eMd G sv rem typ err lin why wha beh its siz att wro tol) N) (none) (mH G h (eMd G sv rem typ err lin why wha beh its siz att wro tol) (upd N (66 + 8 * i) y)) := by
  refine Ct.of (L := [(0, _), (1, _), (2, _), (3, _)]) (by decide) (ble rfl) rfl ?_
  first | refine x_aload_n 0 dX12_becomes_0 rfl rfl ?_ | refine x_aload_nN 0 dX12_becomes_0 rfl rfl ?_
  refine x_get fX12_9 rfl dX12_becomes_1 (by with_reducible repeat first | assumption | exact mH_0 ok | exact mH_1 | exact hset_s | refine mH_o (by first | assumption | exact nA ok (by omega) (by omega) (by omega)) (by first | assumption | exact nA ok (by omega) (by omega) (by omega)) ?_ | refine hget_n (by first | assumption | exact Ne.symm (by assumption) | exact nA ok (by omega) (by omega) (by omega)) ?_) (by rfl) ?_
  refine x_bipush (v := 60) dX12_becomes_4 rfl ?_
  refine x_bipush (v := 8) dX12_becomes_6 rfl ?_
  refine x_iload_n 1 dX12_becomes_8 rfl rfl ?_
  refine x_imul dX12_becomes_9 ?_
  refine x_iadd dX12_becomes_10 ?_
  refine x_iload_n 2 dX12_becomes_11 rfl rfl ?_
  refine x_iadd dX12_becomes_12 ?_
  refine x_iload_n 3 dX12_becomes_13 rfl rfl ?_
  refine x_mast (i := 60 + 8 * i + 6) ok (by first | exact Eq.refl (nI _) | exact ix_p _ _ | exact ix_o _ _ | exact ix_s _ | exact ix_s1 _ _ | (rw [ix_s]; exact nI_add _ _) | exact nI_add _ 1 | exact nI_add _ 2 | exact nI_add _ 3 | exact nI_add _ 4 | (rw [ix_o0]; exact nI_add _ 3) | (rw [ix_o0]; exact nI_add _ 4) | (rw [ix_o0]; exact nI_add _ _)) dX12_becomes_14 (by omega) ?_
  refine x_vret rfl dX12_becomes_15 ?_
  exact ⟨rfl, by rw [show 60 + 8 * i + 6 = 66 + 8 * i by omega]⟩
set_option maxRecDepth 100000 in
set_option maxHeartbeats 4000000 in
theorem ct_X12_of_7 {l : Launch} {G : Gl} {h : Hp} {sv rem typ err lin why wha beh its siz att wro tol : Int32} {N : Nat → Int32} (ok : Ok G) {i : Nat} (hi : i < 16) : CtR l G mX12_of 1 [.ref (Ad G 20), .int (nI i), .int 7] (mH G h (eMd G sv rem typ err lin why wha beh its siz att wro tol) N) (some (.int (N (67 + 8 * i)))) (mH G h (eMd G sv rem typ err lin why wha beh its siz att wro tol) N) := by
  refine Ct.of (L := [(0, _), (1, _), (2, _)]) (by decide) (ble rfl) rfl ?_
  first | refine x_aload_n 0 dX12_of_0 rfl rfl ?_ | refine x_aload_nN 0 dX12_of_0 rfl rfl ?_
  refine x_get fX12_9 rfl dX12_of_1 (by with_reducible repeat first | assumption | exact mH_0 ok | exact mH_1 | exact hset_s | refine mH_o (by first | assumption | exact nA ok (by omega) (by omega) (by omega)) (by first | assumption | exact nA ok (by omega) (by omega) (by omega)) ?_ | refine hget_n (by first | assumption | exact Ne.symm (by assumption) | exact nA ok (by omega) (by omega) (by omega)) ?_) (by rfl) ?_
  refine x_bipush (v := 60) dX12_of_4 rfl ?_
  refine x_bipush (v := 8) dX12_of_6 rfl ?_
  refine x_iload_n 1 dX12_of_8 rfl rfl ?_
  refine x_imul dX12_of_9 ?_
  refine x_iadd dX12_of_10 ?_
  refine x_iload_n 2 dX12_of_11 rfl rfl ?_
  refine x_iadd dX12_of_12 ?_
  refine x_mald (i := 60 + 8 * i + 7) (v := N (67 + 8 * i)) (by first | exact Eq.refl (nI _) | exact ix_p _ _ | exact ix_o _ _ | exact ix_s _ | exact ix_s1 _ _ | (rw [ix_s]; exact nI_add _ _) | exact nI_add _ 1 | exact nI_add _ 2 | exact nI_add _ 3 | exact nI_add _ 4 | (rw [ix_o0]; exact nI_add _ 3) | (rw [ix_o0]; exact nI_add _ 4) | (rw [ix_o0]; exact nI_add _ _)) dX12_of_13 (by omega) (congrArg N (by omega)) ?_
  refine x_iret rfl dX12_of_14 ?_
  exact ⟨rfl, rfl⟩
set_option maxRecDepth 100000 in
set_option maxHeartbeats 4000000 in
theorem ct_X12_becomes_7 {l : Launch} {G : Gl} {h : Hp} {sv rem typ err lin why wha beh its siz att wro tol : Int32} {N : Nat → Int32} (ok : Ok G) {i : Nat} (hi : i < 16) (y : Int32) : CtR l G mX12_becomes 1 [.ref (Ad G 20), .int (nI i), .int 7, .int y] (mH G h (eMd G sv rem typ err lin why wha beh its siz att wro tol) N) (none) (mH G h (eMd G sv rem typ err lin why wha beh its siz att wro tol) (upd N (67 + 8 * i) y)) := by
  refine Ct.of (L := [(0, _), (1, _), (2, _), (3, _)]) (by decide) (ble rfl) rfl ?_
  first | refine x_aload_n 0 dX12_becomes_0 rfl rfl ?_ | refine x_aload_nN 0 dX12_becomes_0 rfl rfl ?_
  refine x_get fX12_9 rfl dX12_becomes_1 (by with_reducible repeat first | assumption | exact mH_0 ok | exact mH_1 | exact hset_s | refine mH_o (by first | assumption | exact nA ok (by omega) (by omega) (by omega)) (by first | assumption | exact nA ok (by omega) (by omega) (by omega)) ?_ | refine hget_n (by first | assumption | exact Ne.symm (by assumption) | exact nA ok (by omega) (by omega) (by omega)) ?_) (by rfl) ?_
  refine x_bipush (v := 60) dX12_becomes_4 rfl ?_
  refine x_bipush (v := 8) dX12_becomes_6 rfl ?_
  refine x_iload_n 1 dX12_becomes_8 rfl rfl ?_
  refine x_imul dX12_becomes_9 ?_
  refine x_iadd dX12_becomes_10 ?_
  refine x_iload_n 2 dX12_becomes_11 rfl rfl ?_
  refine x_iadd dX12_becomes_12 ?_
  refine x_iload_n 3 dX12_becomes_13 rfl rfl ?_
  refine x_mast (i := 60 + 8 * i + 7) ok (by first | exact Eq.refl (nI _) | exact ix_p _ _ | exact ix_o _ _ | exact ix_s _ | exact ix_s1 _ _ | (rw [ix_s]; exact nI_add _ _) | exact nI_add _ 1 | exact nI_add _ 2 | exact nI_add _ 3 | exact nI_add _ 4 | (rw [ix_o0]; exact nI_add _ 3) | (rw [ix_o0]; exact nI_add _ 4) | (rw [ix_o0]; exact nI_add _ _)) dX12_becomes_14 (by omega) ?_
  refine x_vret rfl dX12_becomes_15 ?_
  exact ⟨rfl, by rw [show 60 + 8 * i + 7 = 67 + 8 * i by omega]⟩
set_option maxRecDepth 100000 in
set_option maxHeartbeats 4000000 in
theorem ct_X12_becomes_w {l : Launch} {G : Gl} {h : Hp} {sv rem typ err lin why wha beh its siz att wro tol : Int32} {N : Nat → Int32} (ok : Ok G) {i : Nat} (hi : i < 16) {w : Nat} (hw : w < 8) (y : Int32) : CtR l G mX12_becomes 1 [.ref (Ad G 20), .int (nI i), .int (nI w), .int y] (mH G h (eMd G sv rem typ err lin why wha beh its siz att wro tol) N) (none) (mH G h (eMd G sv rem typ err lin why wha beh its siz att wro tol) (upd N (60 + 8 * i + w) y)) := by
  refine Ct.of (L := [(0, _), (1, _), (2, _), (3, _)]) (by decide) (ble rfl) rfl ?_
  first | refine x_aload_n 0 dX12_becomes_0 rfl rfl ?_ | refine x_aload_nN 0 dX12_becomes_0 rfl rfl ?_
  refine x_get fX12_9 rfl dX12_becomes_1 (by with_reducible repeat first | assumption | exact mH_0 ok | exact mH_1 | exact hset_s | refine mH_o (by first | assumption | exact nA ok (by omega) (by omega) (by omega)) (by first | assumption | exact nA ok (by omega) (by omega) (by omega)) ?_ | refine hget_n (by first | assumption | exact Ne.symm (by assumption) | exact nA ok (by omega) (by omega) (by omega)) ?_) (by rfl) ?_
  refine x_bipush (v := 60) dX12_becomes_4 rfl ?_
  refine x_bipush (v := 8) dX12_becomes_6 rfl ?_
  refine x_iload_n 1 dX12_becomes_8 rfl rfl ?_
  refine x_imul dX12_becomes_9 ?_
  refine x_iadd dX12_becomes_10 ?_
  refine x_iload_n 2 dX12_becomes_11 rfl rfl ?_
  refine x_iadd dX12_becomes_12 ?_
  refine x_iload_n 3 dX12_becomes_13 rfl rfl ?_
  refine x_mast (i := 60 + 8 * i + w) ok (by first | exact Eq.refl (nI _) | exact ix_p _ _ | exact ix_o _ _ | exact ix_s _ | exact ix_s1 _ _ | (rw [ix_s]; exact nI_add _ _) | exact nI_add _ 1 | exact nI_add _ 2 | exact nI_add _ 3 | exact nI_add _ 4 | (rw [ix_o0]; exact nI_add _ 3) | (rw [ix_o0]; exact nI_add _ 4) | (rw [ix_o0]; exact nI_add _ _)) dX12_becomes_14 (by omega) ?_
  refine x_vret rfl dX12_becomes_15 ?_
  exact ⟨rfl, rfl⟩
set_option maxRecDepth 100000 in
set_option maxHeartbeats 4000000 in
theorem ct_X12_ofOrder_0 {l : Launch} {G : Gl} {h : Hp} {sv rem typ err lin why wha beh its siz att wro tol : Int32} {N : Nat → Int32} (ok : Ok G) {j : Nat} (hj : j < 8) : CtR l G mX12_ofOrder 1 [.ref (Ad G 20), .int (nI j), .int 0] (mH G h (eMd G sv rem typ err lin why wha beh its siz att wro tol) N) (some (.int (N (188 + 5 * j)))) (mH G h (eMd G sv rem typ err lin why wha beh its siz att wro tol) N) := by
  refine Ct.of (L := [(0, _), (1, _), (2, _)]) (by decide) (ble rfl) rfl ?_
  first | refine x_aload_n 0 dX12_ofOrder_0 rfl rfl ?_ | refine x_aload_nN 0 dX12_ofOrder_0 rfl rfl ?_
  refine x_get fX12_9 rfl dX12_ofOrder_1 (by with_reducible repeat first | assumption | exact mH_0 ok | exact mH_1 | exact hset_s | refine mH_o (by first | assumption | exact nA ok (by omega) (by omega) (by omega)) (by first | assumption | exact nA ok (by omega) (by omega) (by omega)) ?_ | refine hget_n (by first | assumption | exact Ne.symm (by assumption) | exact nA ok (by omega) (by omega) (by omega)) ?_) (by rfl) ?_
  refine x_sipush (v := 188) dX12_ofOrder_4 rfl ?_
  refine x_iconst (v := 5) dX12_ofOrder_7 rfl ?_
  refine x_iload_n 1 dX12_ofOrder_8 rfl rfl ?_
  refine x_imul dX12_ofOrder_9 ?_
  refine x_iadd dX12_ofOrder_10 ?_
  refine x_iload_n 2 dX12_ofOrder_11 rfl rfl ?_
  refine x_iadd dX12_ofOrder_12 ?_
  refine x_mald (i := 188 + 5 * j + 0) (v := N (188 + 5 * j)) (by first | exact Eq.refl (nI _) | exact ix_p _ _ | exact ix_o _ _ | exact ix_s _ | exact ix_s1 _ _ | (rw [ix_s]; exact nI_add _ _) | exact nI_add _ 1 | exact nI_add _ 2 | exact nI_add _ 3 | exact nI_add _ 4 | (rw [ix_o0]; exact nI_add _ 3) | (rw [ix_o0]; exact nI_add _ 4) | (rw [ix_o0]; exact nI_add _ _)) dX12_ofOrder_13 (by omega) (congrArg N (by omega)) ?_
  refine x_iret rfl dX12_ofOrder_14 ?_
  exact ⟨rfl, rfl⟩
set_option maxRecDepth 100000 in
set_option maxHeartbeats 4000000 in
theorem ct_X12_ofOrder_1 {l : Launch} {G : Gl} {h : Hp} {sv rem typ err lin why wha beh its siz att wro tol : Int32} {N : Nat → Int32} (ok : Ok G) {j : Nat} (hj : j < 8) : CtR l G mX12_ofOrder 1 [.ref (Ad G 20), .int (nI j), .int 1] (mH G h (eMd G sv rem typ err lin why wha beh its siz att wro tol) N) (some (.int (N (189 + 5 * j)))) (mH G h (eMd G sv rem typ err lin why wha beh its siz att wro tol) N) := by
  refine Ct.of (L := [(0, _), (1, _), (2, _)]) (by decide) (ble rfl) rfl ?_
  first | refine x_aload_n 0 dX12_ofOrder_0 rfl rfl ?_ | refine x_aload_nN 0 dX12_ofOrder_0 rfl rfl ?_
  refine x_get fX12_9 rfl dX12_ofOrder_1 (by with_reducible repeat first | assumption | exact mH_0 ok | exact mH_1 | exact hset_s | refine mH_o (by first | assumption | exact nA ok (by omega) (by omega) (by omega)) (by first | assumption | exact nA ok (by omega) (by omega) (by omega)) ?_ | refine hget_n (by first | assumption | exact Ne.symm (by assumption) | exact nA ok (by omega) (by omega) (by omega)) ?_) (by rfl) ?_
  refine x_sipush (v := 188) dX12_ofOrder_4 rfl ?_
  refine x_iconst (v := 5) dX12_ofOrder_7 rfl ?_
  refine x_iload_n 1 dX12_ofOrder_8 rfl rfl ?_
  refine x_imul dX12_ofOrder_9 ?_
  refine x_iadd dX12_ofOrder_10 ?_
  refine x_iload_n 2 dX12_ofOrder_11 rfl rfl ?_
  refine x_iadd dX12_ofOrder_12 ?_
  refine x_mald (i := 188 + 5 * j + 1) (v := N (189 + 5 * j)) (by first | exact Eq.refl (nI _) | exact ix_p _ _ | exact ix_o _ _ | exact ix_s _ | exact ix_s1 _ _ | (rw [ix_s]; exact nI_add _ _) | exact nI_add _ 1 | exact nI_add _ 2 | exact nI_add _ 3 | exact nI_add _ 4 | (rw [ix_o0]; exact nI_add _ 3) | (rw [ix_o0]; exact nI_add _ 4) | (rw [ix_o0]; exact nI_add _ _)) dX12_ofOrder_13 (by omega) (congrArg N (by omega)) ?_
  refine x_iret rfl dX12_ofOrder_14 ?_
  exact ⟨rfl, rfl⟩
set_option maxRecDepth 100000 in
set_option maxHeartbeats 4000000 in
theorem ct_X12_ofOrder_2 {l : Launch} {G : Gl} {h : Hp} {sv rem typ err lin why wha beh its siz att wro tol : Int32} {N : Nat → Int32} (ok : Ok G) {j : Nat} (hj : j < 8) : CtR l G mX12_ofOrder 1 [.ref (Ad G 20), .int (nI j), .int 2] (mH G h (eMd G sv rem typ err lin why wha beh its siz att wro tol) N) (some (.int (N (190 + 5 * j)))) (mH G h (eMd G sv rem typ err lin why wha beh its siz att wro tol) N) := by
  refine Ct.of (L := [(0, _), (1, _), (2, _)]) (by decide) (ble rfl) rfl ?_
  first | refine x_aload_n 0 dX12_ofOrder_0 rfl rfl ?_ | refine x_aload_nN 0 dX12_ofOrder_0 rfl rfl ?_
  refine x_get fX12_9 rfl dX12_ofOrder_1 (by with_reducible repeat first | assumption | exact mH_0 ok | exact mH_1 | exact hset_s | refine mH_o (by first | assumption | exact nA ok (by omega) (by omega) (by omega)) (by first | assumption | exact nA ok (by omega) (by omega) (by omega)) ?_ | refine hget_n (by first | assumption | exact Ne.symm (by assumption) | exact nA ok (by omega) (by omega) (by omega)) ?_) (by rfl) ?_
  refine x_sipush (v := 188) dX12_ofOrder_4 rfl ?_
  refine x_iconst (v := 5) dX12_ofOrder_7 rfl ?_
  refine x_iload_n 1 dX12_ofOrder_8 rfl rfl ?_
  refine x_imul dX12_ofOrder_9 ?_
  refine x_iadd dX12_ofOrder_10 ?_
  refine x_iload_n 2 dX12_ofOrder_11 rfl rfl ?_
  refine x_iadd dX12_ofOrder_12 ?_
  refine x_mald (i := 188 + 5 * j + 2) (v := N (190 + 5 * j)) (by first | exact Eq.refl (nI _) | exact ix_p _ _ | exact ix_o _ _ | exact ix_s _ | exact ix_s1 _ _ | (rw [ix_s]; exact nI_add _ _) | exact nI_add _ 1 | exact nI_add _ 2 | exact nI_add _ 3 | exact nI_add _ 4 | (rw [ix_o0]; exact nI_add _ 3) | (rw [ix_o0]; exact nI_add _ 4) | (rw [ix_o0]; exact nI_add _ _)) dX12_ofOrder_13 (by omega) (congrArg N (by omega)) ?_
  refine x_iret rfl dX12_ofOrder_14 ?_
  exact ⟨rfl, rfl⟩
set_option maxRecDepth 100000 in
set_option maxHeartbeats 4000000 in
theorem ct_X12_ofOrder_3 {l : Launch} {G : Gl} {h : Hp} {sv rem typ err lin why wha beh its siz att wro tol : Int32} {N : Nat → Int32} (ok : Ok G) {j : Nat} (hj : j < 8) : CtR l G mX12_ofOrder 1 [.ref (Ad G 20), .int (nI j), .int 3] (mH G h (eMd G sv rem typ err lin why wha beh its siz att wro tol) N) (some (.int (N (191 + 5 * j)))) (mH G h (eMd G sv rem typ err lin why wha beh its siz att wro tol) N) := by
  refine Ct.of (L := [(0, _), (1, _), (2, _)]) (by decide) (ble rfl) rfl ?_
  first | refine x_aload_n 0 dX12_ofOrder_0 rfl rfl ?_ | refine x_aload_nN 0 dX12_ofOrder_0 rfl rfl ?_
  refine x_get fX12_9 rfl dX12_ofOrder_1 (by with_reducible repeat first | assumption | exact mH_0 ok | exact mH_1 | exact hset_s | refine mH_o (by first | assumption | exact nA ok (by omega) (by omega) (by omega)) (by first | assumption | exact nA ok (by omega) (by omega) (by omega)) ?_ | refine hget_n (by first | assumption | exact Ne.symm (by assumption) | exact nA ok (by omega) (by omega) (by omega)) ?_) (by rfl) ?_
  refine x_sipush (v := 188) dX12_ofOrder_4 rfl ?_
  refine x_iconst (v := 5) dX12_ofOrder_7 rfl ?_
  refine x_iload_n 1 dX12_ofOrder_8 rfl rfl ?_
  refine x_imul dX12_ofOrder_9 ?_
  refine x_iadd dX12_ofOrder_10 ?_
  refine x_iload_n 2 dX12_ofOrder_11 rfl rfl ?_
  refine x_iadd dX12_ofOrder_12 ?_
  refine x_mald (i := 188 + 5 * j + 3) (v := N (191 + 5 * j)) (by first | exact Eq.refl (nI _) | exact ix_p _ _ | exact ix_o _ _ | exact ix_s _ | exact ix_s1 _ _ | (rw [ix_s]; exact nI_add _ _) | exact nI_add _ 1 | exact nI_add _ 2 | exact nI_add _ 3 | exact nI_add _ 4 | (rw [ix_o0]; exact nI_add _ 3) | (rw [ix_o0]; exact nI_add _ 4) | (rw [ix_o0]; exact nI_add _ _)) dX12_ofOrder_13 (by omega) (congrArg N (by omega)) ?_
  refine x_iret rfl dX12_ofOrder_14 ?_
  exact ⟨rfl, rfl⟩
set_option maxRecDepth 100000 in
set_option maxHeartbeats 4000000 in
theorem ct_X12_ofOrder_4 {l : Launch} {G : Gl} {h : Hp} {sv rem typ err lin why wha beh its siz att wro tol : Int32} {N : Nat → Int32} (ok : Ok G) {j : Nat} (hj : j < 8) : CtR l G mX12_ofOrder 1 [.ref (Ad G 20), .int (nI j), .int 4] (mH G h (eMd G sv rem typ err lin why wha beh its siz att wro tol) N) (some (.int (N (192 + 5 * j)))) (mH G h (eMd G sv rem typ err lin why wha beh its siz att wro tol) N) := by
  refine Ct.of (L := [(0, _), (1, _), (2, _)]) (by decide) (ble rfl) rfl ?_
  first | refine x_aload_n 0 dX12_ofOrder_0 rfl rfl ?_ | refine x_aload_nN 0 dX12_ofOrder_0 rfl rfl ?_
  refine x_get fX12_9 rfl dX12_ofOrder_1 (by with_reducible repeat first | assumption | exact mH_0 ok | exact mH_1 | exact hset_s | refine mH_o (by first | assumption | exact nA ok (by omega) (by omega) (by omega)) (by first | assumption | exact nA ok (by omega) (by omega) (by omega)) ?_ | refine hget_n (by first | assumption | exact Ne.symm (by assumption) | exact nA ok (by omega) (by omega) (by omega)) ?_) (by rfl) ?_
  refine x_sipush (v := 188) dX12_ofOrder_4 rfl ?_
  refine x_iconst (v := 5) dX12_ofOrder_7 rfl ?_
  refine x_iload_n 1 dX12_ofOrder_8 rfl rfl ?_
  refine x_imul dX12_ofOrder_9 ?_
  refine x_iadd dX12_ofOrder_10 ?_
  refine x_iload_n 2 dX12_ofOrder_11 rfl rfl ?_
  refine x_iadd dX12_ofOrder_12 ?_
  refine x_mald (i := 188 + 5 * j + 4) (v := N (192 + 5 * j)) (by first | exact Eq.refl (nI _) | exact ix_p _ _ | exact ix_o _ _ | exact ix_s _ | exact ix_s1 _ _ | (rw [ix_s]; exact nI_add _ _) | exact nI_add _ 1 | exact nI_add _ 2 | exact nI_add _ 3 | exact nI_add _ 4 | (rw [ix_o0]; exact nI_add _ 3) | (rw [ix_o0]; exact nI_add _ 4) | (rw [ix_o0]; exact nI_add _ _)) dX12_ofOrder_13 (by omega) (congrArg N (by omega)) ?_
  refine x_iret rfl dX12_ofOrder_14 ?_
  exact ⟨rfl, rfl⟩
set_option maxRecDepth 100000 in
set_option maxHeartbeats 4000000 in
theorem ct_X12_missingBlows {l : Launch} {G : Gl} {h : Hp} {sv rem typ err lin why wha beh its siz att wro tol : Int32} {N : Nat → Int32} (ok : Ok G) {i : Nat} (hi : i < 16) (hK : K3 (N (60 + 8 * i))) : CtR l G mX12_missingBlows 2 [.ref (Ad G 20), .int (nI i)] (mH G h (eMd G sv rem typ err lin why wha beh its siz att wro tol) N) (some (.int (mx (kSm (kOf (N (60 + 8 * i))) - N (62 + 8 * i)) 0))) (mH G h (eMd G sv rem typ err lin why wha beh its siz att wro tol) N) := by
  refine Ct.of (L := [(0, _), (1, _)]) (by decide) (ble rfl) rfl ?_
  refine x_iconst (v := 0) dX12_missingBlows_0 rfl ?_
  refine x_iconst (v := 2) dX12_missingBlows_1 rfl ?_
  first | refine x_aload_n 0 dX12_missingBlows_2 rfl rfl ?_ | refine x_aload_nN 0 dX12_missingBlows_2 rfl rfl ?_
  refine x_iload_n 1 dX12_missingBlows_3 rfl rfl ?_
  refine x_iconst (v := 0) dX12_missingBlows_4 rfl ?_
  refine x_cV1 (As := [.int _, .int _]) (ct_X12_of_0 ok (by omega)) vX12_101 rfl (x_recv (by with_reducible repeat first | assumption | exact mH_0 ok | exact mH_1 | exact hset_s | refine mH_o (by first | assumption | exact nA ok (by omega) (by omega) (by omega)) (by first | assumption | exact nA ok (by omega) (by omega) (by omega)) ?_ | refine hget_n (by first | assumption | exact Ne.symm (by assumption) | exact nA ok (by omega) (by omega) (by omega)) ?_) rfl) rfl ⟨ble rfl, ble rfl⟩ (ble rfl) dX12_missingBlows_5 rfl ?_
  refine x_cS1 (As := [.int _]) (ct_X12_areaOf (by assumption)) vX12_105 rfl rfl ⟨ble rfl, ble rfl⟩ (ble rfl) dX12_missingBlows_8 rfl ?_
  refine x_imul dX12_missingBlows_11 ?_
  first | refine x_aload_n 0 dX12_missingBlows_12 rfl rfl ?_ | refine x_aload_nN 0 dX12_missingBlows_12 rfl rfl ?_
  refine x_iload_n 1 dX12_missingBlows_13 rfl rfl ?_
  refine x_iconst (v := 2) dX12_missingBlows_14 rfl ?_
  refine x_cV1 (As := [.int _, .int _]) (ct_X12_of_2 ok (by omega)) vX12_101 rfl (x_recv (by with_reducible repeat first | assumption | exact mH_0 ok | exact mH_1 | exact hset_s | refine mH_o (by first | assumption | exact nA ok (by omega) (by omega) (by omega)) (by first | assumption | exact nA ok (by omega) (by omega) (by omega)) ?_ | refine hget_n (by first | assumption | exact Ne.symm (by assumption) | exact nA ok (by omega) (by omega) (by omega)) ?_) rfl) rfl ⟨ble rfl, ble rfl⟩ (ble rfl) dX12_missingBlows_15 rfl ?_
  refine x_isub dX12_missingBlows_18 ?_
  refine x_mmax rfl wX12_108 wMmax2 wMath3 wMmax4 (ble rfl) (ble rfl) dX12_missingBlows_19 ?_
  refine x_iret rfl dX12_missingBlows_22 ?_
  refine ⟨congrArg (fun z => some (Value.int z)) ?_, rfl⟩
  rw [mx0, kA_e _ hK.2]
set_option maxRecDepth 100000 in
set_option maxHeartbeats 4000000 in
theorem ct_X12_thickness {l : Launch} {G : Gl} {h : Hp} {sv rem typ err lin why wha beh its siz att wro tol : Int32} {N : Nat → Int32} (ok : Ok G) {i : Nat} (hi : i < 16) (hK : K3 (N (60 + 8 * i))) : CtR l G mX12_thickness 3 [.ref (Ad G 20), .int (nI i)] (mH G h (eMd G sv rem typ err lin why wha beh its siz att wro tol) N) (some (.int (thickK (kOf (N (60 + 8 * i))) (N (61 + 8 * i)) (N (62 + 8 * i))))) (mH G h (eMd G sv rem typ err lin why wha beh its siz att wro tol) N) := by
  refine Ct.of (L := [(0, _), (1, _)]) (by decide) (ble rfl) rfl ?_
  first | refine x_aload_n 0 dX12_thickness_0 rfl rfl ?_ | refine x_aload_nN 0 dX12_thickness_0 rfl rfl ?_
  refine x_iload_n 1 dX12_thickness_1 rfl rfl ?_
  refine x_iconst (v := 0) dX12_thickness_2 rfl ?_
  refine x_cV1 (As := [.int _, .int _]) (ct_X12_of_0 ok (by omega)) vX12_101 rfl (x_recv (by with_reducible repeat first | assumption | exact mH_0 ok | exact mH_1 | exact hset_s | refine mH_o (by first | assumption | exact nA ok (by omega) (by omega) (by omega)) (by first | assumption | exact nA ok (by omega) (by omega) (by omega)) ?_ | refine hget_n (by first | assumption | exact Ne.symm (by assumption) | exact nA ok (by omega) (by omega) (by omega)) ?_) rfl) rfl ⟨ble rfl, ble rfl⟩ (ble rfl) dX12_thickness_3 rfl ?_
  first | refine x_aload_n 0 dX12_thickness_6 rfl rfl ?_ | refine x_aload_nN 0 dX12_thickness_6 rfl rfl ?_
  refine x_iload_n 1 dX12_thickness_7 rfl rfl ?_
  refine x_iconst (v := 1) dX12_thickness_8 rfl ?_
  refine x_cV1 (As := [.int _, .int _]) (ct_X12_of_1 ok (by omega)) vX12_101 rfl (x_recv (by with_reducible repeat first | assumption | exact mH_0 ok | exact mH_1 | exact hset_s | refine mH_o (by first | assumption | exact nA ok (by omega) (by omega) (by omega)) (by first | assumption | exact nA ok (by omega) (by omega) (by omega)) ?_ | refine hget_n (by first | assumption | exact Ne.symm (by assumption) | exact nA ok (by omega) (by omega) (by omega)) ?_) rfl) rfl ⟨ble rfl, ble rfl⟩ (ble rfl) dX12_thickness_9 rfl ?_
  first | refine x_aload_n 0 dX12_thickness_12 rfl rfl ?_ | refine x_aload_nN 0 dX12_thickness_12 rfl rfl ?_
  refine x_iload_n 1 dX12_thickness_13 rfl rfl ?_
  refine x_iconst (v := 2) dX12_thickness_14 rfl ?_
  refine x_cV1 (As := [.int _, .int _]) (ct_X12_of_2 ok (by omega)) vX12_101 rfl (x_recv (by with_reducible repeat first | assumption | exact mH_0 ok | exact mH_1 | exact hset_s | refine mH_o (by first | assumption | exact nA ok (by omega) (by omega) (by omega)) (by first | assumption | exact nA ok (by omega) (by omega) (by omega)) ?_ | refine hget_n (by first | assumption | exact Ne.symm (by assumption) | exact nA ok (by omega) (by omega) (by omega)) ?_) rfl) rfl ⟨ble rfl, ble rfl⟩ (ble rfl) dX12_thickness_15 rfl ?_
  refine x_cS1 (As := [.int _, .int _, .int _]) (ct_X12_thicknessBy (by assumption) _ _) vX12_113 rfl rfl ⟨ble rfl, ble rfl⟩ (ble rfl) dX12_thickness_18 rfl ?_
  refine x_iret rfl dX12_thickness_21 ?_
  exact ⟨rfl, rfl⟩
set_option maxRecDepth 100000 in
set_option maxHeartbeats 4000000 in
theorem ct_X12_isCracked {l : Launch} {G : Gl} {h : Hp} {sv rem typ err lin why wha beh its siz att wro tol : Int32} {N : Nat → Int32} (ok : Ok G) {i : Nat} (hi : i < 16) (P : PotI N i) : CtR l G mX12_isCracked 4 [.ref (Ad G 20), .int (nI i)] (mH G h (eMd G sv rem typ err lin why wha beh its siz att wro tol) N) (some (.int (crackedK (kOf (N (60 + 8 * i))) (N (61 + 8 * i)) (N (62 + 8 * i))))) (mH G h (eMd G sv rem typ err lin why wha beh its siz att wro tol) N) := by
  obtain ⟨hK, ⟨g, hg, hg1, hg9⟩, ⟨b, hb, hb2⟩, ⟨t, ht, ht9⟩, -⟩ := id P
  have hq := crk_e _ hK.2 g (by omega) hg1 b (by omega)
  refine Ct.of (L := [(0, _), (1, _)]) (by decide) (ble rfl) rfl ?_
  first | refine x_aload_n 0 dX12_isCracked_0 rfl rfl ?_ | refine x_aload_nN 0 dX12_isCracked_0 rfl rfl ?_
  refine x_iload_n 1 dX12_isCracked_1 rfl rfl ?_
  refine x_cV1 (As := [.int _]) (ct_X12_thickness ok (by omega) (by assumption)) vX12_117 rfl (x_recv (by with_reducible repeat first | assumption | exact mH_0 ok | exact mH_1 | exact hset_s | refine mH_o (by first | assumption | exact nA ok (by omega) (by omega) (by omega)) (by first | assumption | exact nA ok (by omega) (by omega) (by omega)) ?_ | refine hget_n (by first | assumption | exact Ne.symm (by assumption) | exact nA ok (by omega) (by omega) (by omega)) ?_) rfl) rfl ⟨ble rfl, ble rfl⟩ (ble rfl) dX12_isCracked_2 rfl ?_
  refine x_if_ne 12 dX12_isCracked_5 (by decide) (fun c5 => ?_) (fun c5 => ?_)
  · refine x_iconst (v := 0) dX12_isCracked_12 rfl ?_
    refine x_zret rfl (by first | (unfold inI; (repeat' split) <;> rfl) | (unfold soldK; split <;> rfl) | rfl | (split <;> rfl) | (unfold b2i; split <;> rfl)) dX12_isCracked_13 ?_
    refine ⟨congrArg (fun z => some (Value.int z)) ?_, rfl⟩
    rw [hg, hb] at *
    unfold crackedK
    first | (rw [if_neg (hq.mp (by assumption))]; done) | (rw [if_pos (Classical.not_not.mp (fun z => c5 (hq.mpr z)))])
  · refine x_iconst (v := 1) dX12_isCracked_8 rfl ?_
    refine x_goto 13 dX12_isCracked_9 (by decide) ?_
    refine x_zret rfl (by first | (unfold inI; (repeat' split) <;> rfl) | (unfold soldK; split <;> rfl) | rfl | (split <;> rfl) | (unfold b2i; split <;> rfl)) dX12_isCracked_13 ?_
    refine ⟨congrArg (fun z => some (Value.int z)) ?_, rfl⟩
    rw [hg, hb] at *
    unfold crackedK
    first | (rw [if_neg (hq.mp (by assumption))]; done) | (rw [if_pos (Classical.not_not.mp (fun z => c5 (hq.mpr z)))])
set_option maxRecDepth 100000 in
set_option maxHeartbeats 4000000 in
theorem ct_X12_isSold {l : Launch} {G : Gl} {h : Hp} {sv rem typ err lin why wha beh its siz att wro tol : Int32} {N : Nat → Int32} (ok : Ok G) {i : Nat} (hi : i < 16) : CtR l G mX12_isSold 2 [.ref (Ad G 20), .int (nI i)] (mH G h (eMd G sv rem typ err lin why wha beh its siz att wro tol) N) (some (.int (soldK (N (66 + 8 * i))))) (mH G h (eMd G sv rem typ err lin why wha beh its siz att wro tol) N) := by
  refine Ct.of (L := [(0, _), (1, _)]) (by decide) (ble rfl) rfl ?_
  first | refine x_aload_n 0 dX12_isSold_0 rfl rfl ?_ | refine x_aload_nN 0 dX12_isSold_0 rfl rfl ?_
  refine x_iload_n 1 dX12_isSold_1 rfl rfl ?_
  refine x_bipush (v := 6) dX12_isSold_2 rfl ?_
  refine x_cV1 (As := [.int _, .int _]) (ct_X12_of_6 ok (by omega)) vX12_101 rfl (x_recv (by with_reducible repeat first | assumption | exact mH_0 ok | exact mH_1 | exact hset_s | refine mH_o (by first | assumption | exact nA ok (by omega) (by omega) (by omega)) (by first | assumption | exact nA ok (by omega) (by omega) (by omega)) ?_ | refine hget_n (by first | assumption | exact Ne.symm (by assumption) | exact nA ok (by omega) (by omega) (by omega)) ?_) rfl) rfl ⟨ble rfl, ble rfl⟩ (ble rfl) dX12_isSold_4 rfl ?_
  refine x_bipush (v := -4) dX12_isSold_7 rfl ?_
  refine x_icmp_eq 16 dX12_isSold_9 (by decide) (fun c9 => ?_) (fun c9 => ?_)
  · refine x_iconst (v := 0) dX12_isSold_16 rfl ?_
    refine x_zret rfl (by first | (unfold inI; (repeat' split) <;> rfl) | (unfold soldK; split <;> rfl) | rfl | (split <;> rfl) | (unfold b2i; split <;> rfl)) dX12_isSold_17 ?_
    refine ⟨congrArg (fun z => some (Value.int z)) ?_, rfl⟩
    unfold soldK
    (repeat' split) <;> first | rfl | contradiction | (simp_all; done) | (exfalso; simp only [Int32.lt_iff_toInt_lt, Int32.le_iff_toInt_le] at *; omega)
  · refine x_iconst (v := 1) dX12_isSold_12 rfl ?_
    refine x_goto 17 dX12_isSold_13 (by decide) ?_
    refine x_zret rfl (by first | (unfold inI; (repeat' split) <;> rfl) | (unfold soldK; split <;> rfl) | rfl | (split <;> rfl) | (unfold b2i; split <;> rfl)) dX12_isSold_17 ?_
    refine ⟨congrArg (fun z => some (Value.int z)) ?_, rfl⟩
    unfold soldK
    (repeat' split) <;> first | rfl | contradiction | (simp_all; done) | (exfalso; simp only [Int32.lt_iff_toInt_lt, Int32.le_iff_toInt_le] at *; omega)
set_option maxRecDepth 100000 in
set_option maxHeartbeats 4000000 in
theorem ct_X12_isNew {l : Launch} {G : Gl} {h : Hp} {sv rem typ err lin why wha beh its siz att wro tol : Int32} {N : Nat → Int32} (ok : Ok G) {i : Nat} (hi : i < 16) : CtR l G mX12_isNew 2 [.ref (Ad G 20), .int (nI i)] (mH G h (eMd G sv rem typ err lin why wha beh its siz att wro tol) N) (some (.int (newK (N (64 + 8 * i))))) (mH G h (eMd G sv rem typ err lin why wha beh its siz att wro tol) N) := by
  refine Ct.of (L := [(0, _), (1, _)]) (by decide) (ble rfl) rfl ?_
  first | refine x_aload_n 0 dX12_isNew_0 rfl rfl ?_ | refine x_aload_nN 0 dX12_isNew_0 rfl rfl ?_
  refine x_iload_n 1 dX12_isNew_1 rfl rfl ?_
  refine x_iconst (v := 4) dX12_isNew_2 rfl ?_
  refine x_cV1 (As := [.int _, .int _]) (ct_X12_of_4 ok (by omega)) vX12_101 rfl (x_recv (by with_reducible repeat first | assumption | exact mH_0 ok | exact mH_1 | exact hset_s | refine mH_o (by first | assumption | exact nA ok (by omega) (by omega) (by omega)) (by first | assumption | exact nA ok (by omega) (by omega) (by omega)) ?_ | refine hget_n (by first | assumption | exact Ne.symm (by assumption) | exact nA ok (by omega) (by omega) (by omega)) ?_) rfl) rfl ⟨ble rfl, ble rfl⟩ (ble rfl) dX12_isNew_3 rfl ?_
  refine x_if_ne 13 dX12_isNew_6 (by decide) (fun c6 => ?_) (fun c6 => ?_)
  · refine x_iconst (v := 0) dX12_isNew_13 rfl ?_
    refine x_zret rfl (by first | (unfold inI; (repeat' split) <;> rfl) | (unfold soldK; split <;> rfl) | rfl | (split <;> rfl) | (unfold b2i; split <;> rfl)) dX12_isNew_14 ?_
    refine ⟨congrArg (fun z => some (Value.int z)) ?_, rfl⟩
    unfold newK
    (repeat' split) <;> first | rfl | contradiction | (simp_all; done) | (exfalso; simp only [Int32.lt_iff_toInt_lt, Int32.le_iff_toInt_le] at *; omega)
  · refine x_iconst (v := 1) dX12_isNew_9 rfl ?_
    refine x_goto 14 dX12_isNew_10 (by decide) ?_
    refine x_zret rfl (by first | (unfold inI; (repeat' split) <;> rfl) | (unfold soldK; split <;> rfl) | rfl | (split <;> rfl) | (unfold b2i; split <;> rfl)) dX12_isNew_14 ?_
    refine ⟨congrArg (fun z => some (Value.int z)) ?_, rfl⟩
    unfold newK
    (repeat' split) <;> first | rfl | contradiction | (simp_all; done) | (exfalso; simp only [Int32.lt_iff_toInt_lt, Int32.le_iff_toInt_le] at *; omega)
set_option maxRecDepth 100000 in
set_option maxHeartbeats 4000000 in
theorem ct_X12_missingTin {l : Launch} {G : Gl} {h : Hp} {sv rem typ err lin why wha beh its siz att wro tol : Int32} {N : Nat → Int32} (ok : Ok G) {i : Nat} (hi : i < 16) {j : Nat} (hj : j < 8) (P : PotI N i) (O : OrdI N j) : CtR l G mX12_missingTin 3 [.ref (Ad G 20), .int (nI i), .int (nI j)] (mH G h (eMd G sv rem typ err lin why wha beh its siz att wro tol) N) (some (.int (mx (tinK (N (64 + 8 * i)) (N (189 + 5 * j)) - N (63 + 8 * i)) 0))) (mH G h (eMd G sv rem typ err lin why wha beh its siz att wro tol) N) := by
  obtain ⟨hK, ⟨g, hg, hg1, hg9⟩, ⟨b, hb, hb2⟩, ⟨t, ht, ht9⟩, -⟩ := id P
  obtain ⟨hK2, ⟨t2, ht2, ht21, ht29⟩, -⟩ := id O
  refine Ct.of (L := [(0, _), (1, _), (2, _)]) (by decide) (ble rfl) rfl ?_
  first | refine x_aload_n 0 dX12_missingTin_0 rfl rfl ?_ | refine x_aload_nN 0 dX12_missingTin_0 rfl rfl ?_
  refine x_iload_n 2 dX12_missingTin_1 rfl rfl ?_
  refine x_iconst (v := 1) dX12_missingTin_2 rfl ?_
  refine x_cV1 (As := [.int _, .int _]) (ct_X12_ofOrder_1 ok (by omega)) vX12_162 rfl (x_recv (by with_reducible repeat first | assumption | exact mH_0 ok | exact mH_1 | exact hset_s | refine mH_o (by first | assumption | exact nA ok (by omega) (by omega) (by omega)) (by first | assumption | exact nA ok (by omega) (by omega) (by omega)) ?_ | refine hget_n (by first | assumption | exact Ne.symm (by assumption) | exact nA ok (by omega) (by omega) (by omega)) ?_) rfl) rfl ⟨ble rfl, ble rfl⟩ (ble rfl) dX12_missingTin_3 rfl ?_
  first | refine x_aload_n 0 dX12_missingTin_6 rfl rfl ?_ | refine x_aload_nN 0 dX12_missingTin_6 rfl rfl ?_
  refine x_iload_n 1 dX12_missingTin_7 rfl rfl ?_
  refine x_cV1 (As := [.int _]) (ct_X12_isNew ok (by omega)) vX12_165 rfl (x_recv (by with_reducible repeat first | assumption | exact mH_0 ok | exact mH_1 | exact hset_s | refine mH_o (by first | assumption | exact nA ok (by omega) (by omega) (by omega)) (by first | assumption | exact nA ok (by omega) (by omega) (by omega)) ?_ | refine hget_n (by first | assumption | exact Ne.symm (by assumption) | exact nA ok (by omega) (by omega) (by omega)) ?_) rfl) rfl ⟨ble rfl, ble rfl⟩ (ble rfl) dX12_missingTin_8 rfl ?_
  refine x_if_eq 18 dX12_missingTin_11 (by decide) (fun c11 => ?_) (fun c11 => ?_)
  · refine x_iconst (v := 0) dX12_missingTin_18 rfl ?_
    refine x_mmax rfl wX12_108 wMmax2 wMath3 wMmax4 (ble rfl) (ble rfl) dX12_missingTin_19 ?_
    refine x_istore_n (L' := [(3, _), (0, _), (1, _), (2, _)]) dX12_missingTin_22 rfl (ble rfl) rfl ?_
    refine x_iconst (v := 0) dX12_missingTin_23 rfl ?_
    refine x_iload_n 0 dX12_missingTin_24 rfl rfl ?_
    first | refine x_aload_n 1 dX12_missingTin_25 rfl rfl ?_ | refine x_aload_nN 1 dX12_missingTin_25 rfl rfl ?_
    refine x_iload_n 2 dX12_missingTin_26 rfl rfl ?_
    refine x_iconst (v := 3) dX12_missingTin_27 rfl ?_
    refine x_cV1 (As := [.int _, .int _]) (ct_X12_of_3 ok (by omega)) vX12_101 rfl (x_recv (by with_reducible repeat first | assumption | exact mH_0 ok | exact mH_1 | exact hset_s | refine mH_o (by first | assumption | exact nA ok (by omega) (by omega) (by omega)) (by first | assumption | exact nA ok (by omega) (by omega) (by omega)) ?_ | refine hget_n (by first | assumption | exact Ne.symm (by assumption) | exact nA ok (by omega) (by omega) (by omega)) ?_) rfl) rfl ⟨ble rfl, ble rfl⟩ (ble rfl) dX12_missingTin_28 rfl ?_
    refine x_isub dX12_missingTin_31 ?_
    refine x_mmax rfl wX12_108 wMmax2 wMath3 wMmax4 (ble rfl) (ble rfl) dX12_missingTin_32 ?_
    refine x_iret rfl dX12_missingTin_35 ?_
    refine ⟨congrArg (fun z => some (Value.int z)) ?_, rfl⟩
    rw [mx0]
    congr 1
    congr 1
    unfold newK at c11
    unfold tinK
    by_cases q : N (64 + 8 * i) = 0
    · rw [if_pos q] at c11 ⊢; first | exact absurd c11 (by decide) | exact Eq.refl (mx _ 3)
    · rw [if_neg q] at c11 ⊢; first | exact absurd rfl c11 | (rw [ht2]; exact mxt_e t2 (by omega) ht21)
  · refine x_iconst (v := 3) dX12_missingTin_14 rfl ?_
    refine x_goto 19 dX12_missingTin_15 (by decide) ?_
    refine x_mmax rfl wX12_108 wMmax2 wMath3 wMmax4 (ble rfl) (ble rfl) dX12_missingTin_19 ?_
    refine x_istore_n (L' := [(3, _), (0, _), (1, _), (2, _)]) dX12_missingTin_22 rfl (ble rfl) rfl ?_
    refine x_iconst (v := 0) dX12_missingTin_23 rfl ?_
    refine x_iload_n 0 dX12_missingTin_24 rfl rfl ?_
    first | refine x_aload_n 1 dX12_missingTin_25 rfl rfl ?_ | refine x_aload_nN 1 dX12_missingTin_25 rfl rfl ?_
    refine x_iload_n 2 dX12_missingTin_26 rfl rfl ?_
    refine x_iconst (v := 3) dX12_missingTin_27 rfl ?_
    refine x_cV1 (As := [.int _, .int _]) (ct_X12_of_3 ok (by omega)) vX12_101 rfl (x_recv (by with_reducible repeat first | assumption | exact mH_0 ok | exact mH_1 | exact hset_s | refine mH_o (by first | assumption | exact nA ok (by omega) (by omega) (by omega)) (by first | assumption | exact nA ok (by omega) (by omega) (by omega)) ?_ | refine hget_n (by first | assumption | exact Ne.symm (by assumption) | exact nA ok (by omega) (by omega) (by omega)) ?_) rfl) rfl ⟨ble rfl, ble rfl⟩ (ble rfl) dX12_missingTin_28 rfl ?_
    refine x_isub dX12_missingTin_31 ?_
    refine x_mmax rfl wX12_108 wMmax2 wMath3 wMmax4 (ble rfl) (ble rfl) dX12_missingTin_32 ?_
    refine x_iret rfl dX12_missingTin_35 ?_
    refine ⟨congrArg (fun z => some (Value.int z)) ?_, rfl⟩
    rw [mx0]
    congr 1
    congr 1
    unfold newK at c11
    unfold tinK
    by_cases q : N (64 + 8 * i) = 0
    · rw [if_pos q] at c11 ⊢; first | exact absurd c11 (by decide) | exact Eq.refl (mx _ 3)
    · rw [if_neg q] at c11 ⊢; first | exact absurd rfl c11 | (rw [ht2]; exact mxt_e t2 (by omega) ht21)
set_option maxRecDepth 100000 in
set_option maxHeartbeats 4000000 in
theorem ct_X12_unfit {l : Launch} {G : Gl} {h : Hp} {sv rem typ err lin why wha beh its siz att wro tol : Int32} {N : Nat → Int32} (ok : Ok G) {i : Nat} (hi : i < 16) {j : Nat} (hj : j < 8) (P : PotI N i) (O : OrdI N j) : CtR l G mX12_unfit 5 [.ref (Ad G 20), .int (nI i), .int (nI j)] (mH G h (eMd G sv rem typ err lin why wha beh its siz att wro tol) N) (some (.int (lackN N i j))) (mH G h (eMd G sv rem typ err lin why wha beh its siz att wro tol) N) := by
  obtain ⟨hK, ⟨g, hg, hg1, hg9⟩, ⟨b, hb, hb2⟩, ⟨t, ht, ht9⟩, -⟩ := id P
  obtain ⟨hK2, ⟨t2, ht2, ht21, ht29⟩, -⟩ := id O
  have hq := mis_e _ hK.2 b (by omega)
  obtain ⟨c, hc, hc9⟩ := tin_e (m := N (64 + 8 * i)) (a := t2) ht29
  have hq2 := (mist_e c (by omega) t (by omega)).1
  rw [← hc, ← ht2, ← ht] at hq2
  rw [← hb] at hq
  have hkk : N (60 + 8 * i) = N (188 + 5 * j) ↔ kOf (N (60 + 8 * i)) = kOf (N (188 + 5 * j)) := ⟨fun e => by rw [e], fun e => by rw [hK.1, hK2.1, e]⟩
  refine Ct.of (L := [(0, _), (1, _), (2, _)]) (by decide) (ble rfl) rfl ?_
  first | refine x_aload_n 0 dX12_unfit_0 rfl rfl ?_ | refine x_aload_nN 0 dX12_unfit_0 rfl rfl ?_
  refine x_iload_n 1 dX12_unfit_1 rfl rfl ?_
  refine x_iconst (v := 0) dX12_unfit_2 rfl ?_
  refine x_cV1 (As := [.int _, .int _]) (ct_X12_of_0 ok (by omega)) vX12_101 rfl (x_recv (by with_reducible repeat first | assumption | exact mH_0 ok | exact mH_1 | exact hset_s | refine mH_o (by first | assumption | exact nA ok (by omega) (by omega) (by omega)) (by first | assumption | exact nA ok (by omega) (by omega) (by omega)) ?_ | refine hget_n (by first | assumption | exact Ne.symm (by assumption) | exact nA ok (by omega) (by omega) (by omega)) ?_) rfl) rfl ⟨ble rfl, ble rfl⟩ (ble rfl) dX12_unfit_3 rfl ?_
  first | refine x_aload_n 0 dX12_unfit_6 rfl rfl ?_ | refine x_aload_nN 0 dX12_unfit_6 rfl rfl ?_
  refine x_iload_n 2 dX12_unfit_7 rfl rfl ?_
  refine x_iconst (v := 0) dX12_unfit_8 rfl ?_
  refine x_cV1 (As := [.int _, .int _]) (ct_X12_ofOrder_0 ok (by omega)) vX12_162 rfl (x_recv (by with_reducible repeat first | assumption | exact mH_0 ok | exact mH_1 | exact hset_s | refine mH_o (by first | assumption | exact nA ok (by omega) (by omega) (by omega)) (by first | assumption | exact nA ok (by omega) (by omega) (by omega)) ?_ | refine hget_n (by first | assumption | exact Ne.symm (by assumption) | exact nA ok (by omega) (by omega) (by omega)) ?_) rfl) rfl ⟨ble rfl, ble rfl⟩ (ble rfl) dX12_unfit_9 rfl ?_
  refine x_icmp_eq 18 dX12_unfit_12 (by decide) (fun c12 => ?_) (fun c12 => ?_)
  · first | refine x_aload_n 0 dX12_unfit_18 rfl rfl ?_ | refine x_aload_nN 0 dX12_unfit_18 rfl rfl ?_
    refine x_iload_n 1 dX12_unfit_19 rfl rfl ?_
    refine x_cV1 (As := [.int _]) (ct_X12_isCracked ok (by omega) (by assumption)) vX12_135 rfl (x_recv (by with_reducible repeat first | assumption | exact mH_0 ok | exact mH_1 | exact hset_s | refine mH_o (by first | assumption | exact nA ok (by omega) (by omega) (by omega)) (by first | assumption | exact nA ok (by omega) (by omega) (by omega)) ?_ | refine hget_n (by first | assumption | exact Ne.symm (by assumption) | exact nA ok (by omega) (by omega) (by omega)) ?_) rfl) rfl ⟨ble rfl, ble rfl⟩ (ble rfl) dX12_unfit_20 rfl ?_
    refine x_if_eq 30 dX12_unfit_23 (by decide) (fun c23 => ?_) (fun c23 => ?_)
    · first | refine x_aload_n 0 dX12_unfit_30 rfl rfl ?_ | refine x_aload_nN 0 dX12_unfit_30 rfl rfl ?_
      refine x_iload_n 1 dX12_unfit_31 rfl rfl ?_
      refine x_cV1 (As := [.int _]) (ct_X12_missingBlows ok (by omega) (by assumption)) vX12_147 rfl (x_recv (by with_reducible repeat first | assumption | exact mH_0 ok | exact mH_1 | exact hset_s | refine mH_o (by first | assumption | exact nA ok (by omega) (by omega) (by omega)) (by first | assumption | exact nA ok (by omega) (by omega) (by omega)) ?_ | refine hget_n (by first | assumption | exact Ne.symm (by assumption) | exact nA ok (by omega) (by omega) (by omega)) ?_) rfl) rfl ⟨ble rfl, ble rfl⟩ (ble rfl) dX12_unfit_32 rfl ?_
      refine x_if_le 43 dX12_unfit_35 (by decide) (fun c35 => ?_) (fun c35 => ?_)
      · first | refine x_aload_n 0 dX12_unfit_43 rfl rfl ?_ | refine x_aload_nN 0 dX12_unfit_43 rfl rfl ?_
        refine x_iload_n 1 dX12_unfit_44 rfl rfl ?_
        refine x_iload_n 2 dX12_unfit_45 rfl rfl ?_
        refine x_cV1 (As := [.int _, .int _]) (ct_X12_missingTin ok (by omega) (by omega) (by assumption) (by assumption)) vX12_168 rfl (x_recv (by with_reducible repeat first | assumption | exact mH_0 ok | exact mH_1 | exact hset_s | refine mH_o (by first | assumption | exact nA ok (by omega) (by omega) (by omega)) (by first | assumption | exact nA ok (by omega) (by omega) (by omega)) ?_ | refine hget_n (by first | assumption | exact Ne.symm (by assumption) | exact nA ok (by omega) (by omega) (by omega)) ?_) rfl) rfl ⟨ble rfl, ble rfl⟩ (ble rfl) dX12_unfit_46 rfl ?_
        refine x_if_le 57 dX12_unfit_49 (by decide) (fun c49 => ?_) (fun c49 => ?_)
        · refine x_iconst (v := 0) dX12_unfit_57 rfl ?_
          refine x_iret rfl dX12_unfit_58 ?_
          refine ⟨congrArg (fun z => some (Value.int z)) ?_, rfl⟩
          unfold lackN lackK smoothK
          simp only [hkk, hq, hq2] at *
          (repeat' split) <;> first | rfl | contradiction | (simp_all; done) | (exfalso; simp only [Int32.lt_iff_toInt_lt, Int32.le_iff_toInt_le] at *; omega)
        · refine x_bipush (v := 13) dX12_unfit_52 rfl ?_
          refine x_goto 58 dX12_unfit_54 (by decide) ?_
          refine x_iret rfl dX12_unfit_58 ?_
          refine ⟨congrArg (fun z => some (Value.int z)) ?_, rfl⟩
          unfold lackN lackK smoothK
          simp only [hkk, hq, hq2] at *
          (repeat' split) <;> first | rfl | contradiction | (simp_all; done) | (exfalso; simp only [Int32.lt_iff_toInt_lt, Int32.le_iff_toInt_le] at *; omega)
      · refine x_bipush (v := 6) dX12_unfit_38 rfl ?_
        refine x_goto 58 dX12_unfit_40 (by decide) ?_
        refine x_iret rfl dX12_unfit_58 ?_
        refine ⟨congrArg (fun z => some (Value.int z)) ?_, rfl⟩
        unfold lackN lackK smoothK
        simp only [hkk, hq, hq2] at *
        (repeat' split) <;> first | rfl | contradiction | (simp_all; done) | (exfalso; simp only [Int32.lt_iff_toInt_lt, Int32.le_iff_toInt_le] at *; omega)
    · refine x_iconst (v := 5) dX12_unfit_26 rfl ?_
      refine x_goto 58 dX12_unfit_27 (by decide) ?_
      refine x_iret rfl dX12_unfit_58 ?_
      refine ⟨congrArg (fun z => some (Value.int z)) ?_, rfl⟩
      unfold lackN lackK smoothK
      simp only [hkk, hq, hq2] at *
      (repeat' split) <;> first | rfl | contradiction | (simp_all; done) | (exfalso; simp only [Int32.lt_iff_toInt_lt, Int32.le_iff_toInt_le] at *; omega)
  · refine x_bipush (v := 12) dX12_unfit_15 rfl ?_
    refine x_iret rfl dX12_unfit_17 ?_
    refine ⟨congrArg (fun z => some (Value.int z)) ?_, rfl⟩
    unfold lackN lackK smoothK
    simp only [hkk, hq, hq2] at *
    (repeat' split) <;> first | rfl | contradiction | (simp_all; done) | (exfalso; simp only [Int32.lt_iff_toInt_lt, Int32.le_iff_toInt_le] at *; omega)
set_option maxRecDepth 100000 in
set_option maxHeartbeats 4000000 in
theorem ct_X12_payFor {l : Launch} {G : Gl} {h : Hp} {sv rem typ err lin why wha beh its siz att wro tol : Int32} {N : Nat → Int32} (ok : Ok G) {i : Nat} (hi : i < 16) {j : Nat} (hj : j < 8) : CtR l G mX12_payFor 3 [.ref (Ad G 20), .int (nI i), .int (nI j)] (mH G h (eMd G sv rem typ err lin why wha beh its siz att wro tol) N) (some (.int (payK (N (64 + 8 * i)) (N (190 + 5 * j))))) (mH G h (eMd G sv rem typ err lin why wha beh its siz att wro tol) N) := by
  refine Ct.of (L := [(0, _), (1, _), (2, _)]) (by decide) (ble rfl) rfl ?_
  first | refine x_aload_n 0 dX12_payFor_0 rfl rfl ?_ | refine x_aload_nN 0 dX12_payFor_0 rfl rfl ?_
  refine x_iload_n 1 dX12_payFor_1 rfl rfl ?_
  refine x_cV1 (As := [.int _]) (ct_X12_isNew ok (by omega)) vX12_165 rfl (x_recv (by with_reducible repeat first | assumption | exact mH_0 ok | exact mH_1 | exact hset_s | refine mH_o (by first | assumption | exact nA ok (by omega) (by omega) (by omega)) (by first | assumption | exact nA ok (by omega) (by omega) (by omega)) ?_ | refine hget_n (by first | assumption | exact Ne.symm (by assumption) | exact nA ok (by omega) (by omega) (by omega)) ?_) rfl) rfl ⟨ble rfl, ble rfl⟩ (ble rfl) dX12_payFor_2 rfl ?_
  refine x_if_eq 17 dX12_payFor_5 (by decide) (fun c5 => ?_) (fun c5 => ?_)
  · first | refine x_aload_n 0 dX12_payFor_17 rfl rfl ?_ | refine x_aload_nN 0 dX12_payFor_17 rfl rfl ?_
    refine x_iload_n 2 dX12_payFor_18 rfl rfl ?_
    refine x_iconst (v := 2) dX12_payFor_19 rfl ?_
    refine x_cV1 (As := [.int _, .int _]) (ct_X12_ofOrder_2 ok (by omega)) vX12_162 rfl (x_recv (by with_reducible repeat first | assumption | exact mH_0 ok | exact mH_1 | exact hset_s | refine mH_o (by first | assumption | exact nA ok (by omega) (by omega) (by omega)) (by first | assumption | exact nA ok (by omega) (by omega) (by omega)) ?_ | refine hget_n (by first | assumption | exact Ne.symm (by assumption) | exact nA ok (by omega) (by omega) (by omega)) ?_) rfl) rfl ⟨ble rfl, ble rfl⟩ (ble rfl) dX12_payFor_20 rfl ?_
    refine x_iconst (v := 2) dX12_payFor_23 rfl ?_
    refine x_idiv dX12_payFor_24 (by first | decide | assumption) ?_
    refine x_iret rfl dX12_payFor_25 ?_
    refine ⟨congrArg (fun z => some (Value.int z)) ?_, rfl⟩
    unfold newK at *
    unfold payK
    (repeat' split at *) <;> first | rfl | contradiction | (simp_all; done)
  · first | refine x_aload_n 0 dX12_payFor_8 rfl rfl ?_ | refine x_aload_nN 0 dX12_payFor_8 rfl rfl ?_
    refine x_iload_n 2 dX12_payFor_9 rfl rfl ?_
    refine x_iconst (v := 2) dX12_payFor_10 rfl ?_
    refine x_cV1 (As := [.int _, .int _]) (ct_X12_ofOrder_2 ok (by omega)) vX12_162 rfl (x_recv (by with_reducible repeat first | assumption | exact mH_0 ok | exact mH_1 | exact hset_s | refine mH_o (by first | assumption | exact nA ok (by omega) (by omega) (by omega)) (by first | assumption | exact nA ok (by omega) (by omega) (by omega)) ?_ | refine hget_n (by first | assumption | exact Ne.symm (by assumption) | exact nA ok (by omega) (by omega) (by omega)) ?_) rfl) rfl ⟨ble rfl, ble rfl⟩ (ble rfl) dX12_payFor_11 rfl ?_
    refine x_goto 25 dX12_payFor_14 (by decide) ?_
    refine x_iret rfl dX12_payFor_25 ?_
    refine ⟨congrArg (fun z => some (Value.int z)) ?_, rfl⟩
    unfold newK at *
    unfold payK
    (repeat' split at *) <;> first | rfl | contradiction | (simp_all; done)
set_option maxRecDepth 100000 in
set_option maxHeartbeats 4000000 in
theorem ct_X12_isGood {l : Launch} {G : Gl} {h : Hp} {sv rem typ err lin why wha beh its siz att wro tol : Int32} {N : Nat → Int32} (ok : Ok G) {i : Nat} (hi : i < 16) {j : Nat} (hj : j < 8) (P : PotI N i) (O : OrdI N j) : CtR l G mX12_isGood 6 [.ref (Ad G 20), .int (nI i), .int (nI j)] (mH G h (eMd G sv rem typ err lin why wha beh its siz att wro tol) N) (some (.int (goodN N i j))) (mH G h (eMd G sv rem typ err lin why wha beh its siz att wro tol) N) := by
  refine Ct.of (L := [(0, _), (1, _), (2, _)]) (by decide) (ble rfl) rfl ?_
  first | refine x_aload_n 0 dX12_isGood_0 rfl rfl ?_ | refine x_aload_nN 0 dX12_isGood_0 rfl rfl ?_
  refine x_iload_n 1 dX12_isGood_1 rfl rfl ?_
  refine x_cV1 (As := [.int _]) (ct_X12_isSold ok (by omega)) vX12_132 rfl (x_recv (by with_reducible repeat first | assumption | exact mH_0 ok | exact mH_1 | exact hset_s | refine mH_o (by first | assumption | exact nA ok (by omega) (by omega) (by omega)) (by first | assumption | exact nA ok (by omega) (by omega) (by omega)) ?_ | refine hget_n (by first | assumption | exact Ne.symm (by assumption) | exact nA ok (by omega) (by omega) (by omega)) ?_) rfl) rfl ⟨ble rfl, ble rfl⟩ (ble rfl) dX12_isGood_2 rfl ?_
  refine x_if_ne 21 dX12_isGood_5 (by decide) (fun c5 => ?_) (fun c5 => ?_)
  · refine x_iconst (v := 0) dX12_isGood_21 rfl ?_
    refine x_zret rfl (by first | (unfold inI; (repeat' split) <;> rfl) | (unfold soldK; split <;> rfl) | rfl | (split <;> rfl) | (unfold b2i; split <;> rfl)) dX12_isGood_22 ?_
    refine ⟨congrArg (fun z => some (Value.int z)) ?_, rfl⟩
    unfold goodN goodK
    show _ = if _ then _ else if ¬ lackN N i j = 0 then _ else _
    (repeat' split) <;> first | rfl | contradiction | (simp_all; done) | (exfalso; simp only [Int32.lt_iff_toInt_lt, Int32.le_iff_toInt_le] at *; omega)
  · first | refine x_aload_n 0 dX12_isGood_8 rfl rfl ?_ | refine x_aload_nN 0 dX12_isGood_8 rfl rfl ?_
    refine x_iload_n 1 dX12_isGood_9 rfl rfl ?_
    refine x_iload_n 2 dX12_isGood_10 rfl rfl ?_
    refine x_cV1 (As := [.int _, .int _]) (ct_X12_unfit ok (by omega) (by omega) (by assumption) (by assumption)) vX12_174 rfl (x_recv (by with_reducible repeat first | assumption | exact mH_0 ok | exact mH_1 | exact hset_s | refine mH_o (by first | assumption | exact nA ok (by omega) (by omega) (by omega)) (by first | assumption | exact nA ok (by omega) (by omega) (by omega)) ?_ | refine hget_n (by first | assumption | exact Ne.symm (by assumption) | exact nA ok (by omega) (by omega) (by omega)) ?_) rfl) rfl ⟨ble rfl, ble rfl⟩ (ble rfl) dX12_isGood_11 rfl ?_
    refine x_if_ne 21 dX12_isGood_14 (by decide) (fun c14 => ?_) (fun c14 => ?_)
    · refine x_iconst (v := 0) dX12_isGood_21 rfl ?_
      refine x_zret rfl (by first | (unfold inI; (repeat' split) <;> rfl) | (unfold soldK; split <;> rfl) | rfl | (split <;> rfl) | (unfold b2i; split <;> rfl)) dX12_isGood_22 ?_
      refine ⟨congrArg (fun z => some (Value.int z)) ?_, rfl⟩
      unfold goodN goodK
      show _ = if _ then _ else if ¬ lackN N i j = 0 then _ else _
      (repeat' split) <;> first | rfl | contradiction | (simp_all; done) | (exfalso; simp only [Int32.lt_iff_toInt_lt, Int32.le_iff_toInt_le] at *; omega)
    · refine x_iconst (v := 1) dX12_isGood_17 rfl ?_
      refine x_goto 22 dX12_isGood_18 (by decide) ?_
      refine x_zret rfl (by first | (unfold inI; (repeat' split) <;> rfl) | (unfold soldK; split <;> rfl) | rfl | (split <;> rfl) | (unfold b2i; split <;> rfl)) dX12_isGood_22 ?_
      refine ⟨congrArg (fun z => some (Value.int z)) ?_, rfl⟩
      unfold goodN goodK
      show _ = if _ then _ else if ¬ lackN N i j = 0 then _ else _
      (repeat' split) <;> first | rfl | contradiction | (simp_all; done) | (exfalso; simp only [Int32.lt_iff_toInt_lt, Int32.le_iff_toInt_le] at *; omega)
set_option maxRecDepth 100000 in
set_option maxHeartbeats 4000000 in
theorem ct_X12_soundOf {l : Launch} {G : Gl} {h : Hp} {sv rem typ err lin why wha beh its siz att wro tol : Int32} {N : Nat → Int32} (ok : Ok G) {i : Nat} (hi : i < 16) (P : PotI N i) : CtR l G mX12_soundOf 4 [.ref (Ad G 20), .int (nI i)] (mH G h (eMd G sv rem typ err lin why wha beh its siz att wro tol) N) (some (.int (ringK (kOf (N (60 + 8 * i))) (N (61 + 8 * i)) (N (62 + 8 * i)) (N (63 + 8 * i))))) (mH G h (eMd G sv rem typ err lin why wha beh its siz att wro tol) N) := by
  obtain ⟨hK, ⟨g, hg, hg1, hg9⟩, ⟨b, hb, hb2⟩, ⟨t, ht, ht9⟩, -⟩ := id P
  have htt : ∃ t, N (63 + 8 * i) = nI t ∧ t ≤ 9 := ⟨t, ht, ht9⟩
  refine Ct.of (L := [(0, _), (1, _)]) (by decide) (ble rfl) rfl ?_
  first | refine x_aload_n 0 dX12_soundOf_0 rfl rfl ?_ | refine x_aload_nN 0 dX12_soundOf_0 rfl rfl ?_
  refine x_iload_n 1 dX12_soundOf_1 rfl rfl ?_
  refine x_iconst (v := 0) dX12_soundOf_2 rfl ?_
  refine x_cV1 (As := [.int _, .int _]) (ct_X12_of_0 ok (by omega)) vX12_101 rfl (x_recv (by with_reducible repeat first | assumption | exact mH_0 ok | exact mH_1 | exact hset_s | refine mH_o (by first | assumption | exact nA ok (by omega) (by omega) (by omega)) (by first | assumption | exact nA ok (by omega) (by omega) (by omega)) ?_ | refine hget_n (by first | assumption | exact Ne.symm (by assumption) | exact nA ok (by omega) (by omega) (by omega)) ?_) rfl) rfl ⟨ble rfl, ble rfl⟩ (ble rfl) dX12_soundOf_3 rfl ?_
  first | refine x_aload_n 0 dX12_soundOf_6 rfl rfl ?_ | refine x_aload_nN 0 dX12_soundOf_6 rfl rfl ?_
  refine x_iload_n 1 dX12_soundOf_7 rfl rfl ?_
  refine x_iconst (v := 1) dX12_soundOf_8 rfl ?_
  refine x_cV1 (As := [.int _, .int _]) (ct_X12_of_1 ok (by omega)) vX12_101 rfl (x_recv (by with_reducible repeat first | assumption | exact mH_0 ok | exact mH_1 | exact hset_s | refine mH_o (by first | assumption | exact nA ok (by omega) (by omega) (by omega)) (by first | assumption | exact nA ok (by omega) (by omega) (by omega)) ?_ | refine hget_n (by first | assumption | exact Ne.symm (by assumption) | exact nA ok (by omega) (by omega) (by omega)) ?_) rfl) rfl ⟨ble rfl, ble rfl⟩ (ble rfl) dX12_soundOf_9 rfl ?_
  first | refine x_aload_n 0 dX12_soundOf_12 rfl rfl ?_ | refine x_aload_nN 0 dX12_soundOf_12 rfl rfl ?_
  refine x_iload_n 1 dX12_soundOf_13 rfl rfl ?_
  refine x_iconst (v := 2) dX12_soundOf_14 rfl ?_
  refine x_cV1 (As := [.int _, .int _]) (ct_X12_of_2 ok (by omega)) vX12_101 rfl (x_recv (by with_reducible repeat first | assumption | exact mH_0 ok | exact mH_1 | exact hset_s | refine mH_o (by first | assumption | exact nA ok (by omega) (by omega) (by omega)) (by first | assumption | exact nA ok (by omega) (by omega) (by omega)) ?_ | refine hget_n (by first | assumption | exact Ne.symm (by assumption) | exact nA ok (by omega) (by omega) (by omega)) ?_) rfl) rfl ⟨ble rfl, ble rfl⟩ (ble rfl) dX12_soundOf_15 rfl ?_
  first | refine x_aload_n 0 dX12_soundOf_18 rfl rfl ?_ | refine x_aload_nN 0 dX12_soundOf_18 rfl rfl ?_
  refine x_iload_n 1 dX12_soundOf_19 rfl rfl ?_
  refine x_iconst (v := 3) dX12_soundOf_20 rfl ?_
  refine x_cV1 (As := [.int _, .int _]) (ct_X12_of_3 ok (by omega)) vX12_101 rfl (x_recv (by with_reducible repeat first | assumption | exact mH_0 ok | exact mH_1 | exact hset_s | refine mH_o (by first | assumption | exact nA ok (by omega) (by omega) (by omega)) (by first | assumption | exact nA ok (by omega) (by omega) (by omega)) ?_ | refine hget_n (by first | assumption | exact Ne.symm (by assumption) | exact nA ok (by omega) (by omega) (by omega)) ?_) rfl) rfl ⟨ble rfl, ble rfl⟩ (ble rfl) dX12_soundOf_21 rfl ?_
  refine x_cS1 (As := [.int _, .int _, .int _, .int _]) (ct_X12_soundBy (by assumption) (by assumption)) vX12_190 rfl rfl ⟨ble rfl, ble rfl⟩ (ble rfl) dX12_soundOf_24 rfl ?_
  refine x_iret rfl dX12_soundOf_27 ?_
  exact ⟨rfl, rfl⟩
set_option maxRecDepth 100000 in
set_option maxHeartbeats 4000000 in
theorem ct_X12_isPot {l : Launch} {G : Gl} {h : Hp} {sv rem typ err lin why wha beh its siz att wro tol : Int32} {N : Nat → Int32} (ok : Ok G) (x : Int32) : CtR l G mX12_isPot 2 [.ref (Ad G 20), .int x] (mH G h (eMd G sv rem typ err lin why wha beh its siz att wro tol) N) (some (.int (inI x 0 (N 3 - 1)))) (mH G h (eMd G sv rem typ err lin why wha beh its siz att wro tol) N) := by
  refine Ct.of (L := [(0, _), (1, _)]) (by decide) (ble rfl) rfl ?_
  refine x_iload_n 1 dX12_isPot_0 rfl rfl ?_
  refine x_iconst (v := 0) dX12_isPot_1 rfl ?_
  first | refine x_aload_n 0 dX12_isPot_2 rfl rfl ?_ | refine x_aload_nN 0 dX12_isPot_2 rfl rfl ?_
  refine x_get fX12_9 rfl dX12_isPot_3 (by with_reducible repeat first | assumption | exact mH_0 ok | exact mH_1 | exact hset_s | refine mH_o (by first | assumption | exact nA ok (by omega) (by omega) (by omega)) (by first | assumption | exact nA ok (by omega) (by omega) (by omega)) ?_ | refine hget_n (by first | assumption | exact Ne.symm (by assumption) | exact nA ok (by omega) (by omega) (by omega)) ?_) (by rfl) ?_
  refine x_iconst (v := 3) dX12_isPot_6 rfl ?_
  refine x_mald (i := 3) (by first | exact Eq.refl (nI _) | exact ix_p _ _ | exact ix_o _ _ | exact ix_s _ | exact ix_s1 _ _ | (rw [ix_s]; exact nI_add _ _) | exact nI_add _ 1 | exact nI_add _ 2 | exact nI_add _ 3 | exact nI_add _ 4 | (rw [ix_o0]; exact nI_add _ 3) | (rw [ix_o0]; exact nI_add _ 4) | (rw [ix_o0]; exact nI_add _ _)) dX12_isPot_7 (by omega) rfl ?_
  refine x_iconst (v := 1) dX12_isPot_8 rfl ?_
  refine x_isub dX12_isPot_9 ?_
  refine x_cS1 (As := [.int _, .int _, .int _]) (ct_X12_isIn _ _ _) vX12_74 rfl rfl ⟨ble rfl, ble rfl⟩ (ble rfl) dX12_isPot_10 rfl ?_
  refine x_zret rfl (by first | (unfold inI; (repeat' split) <;> rfl) | (unfold soldK; split <;> rfl) | rfl | (split <;> rfl) | (unfold b2i; split <;> rfl)) dX12_isPot_13 ?_
  exact ⟨rfl, rfl⟩
set_option maxRecDepth 100000 in
set_option maxHeartbeats 4000000 in
theorem ct_X12_isSheet {l : Launch} {G : Gl} {h : Hp} {sv rem typ err lin why wha beh its siz att wro tol : Int32} {N : Nat → Int32} (ok : Ok G) (x : Int32) : CtR l G mX12_isSheet 2 [.ref (Ad G 20), .int x] (mH G h (eMd G sv rem typ err lin why wha beh its siz att wro tol) N) (some (.int (inI x 0 (N 2 - 1)))) (mH G h (eMd G sv rem typ err lin why wha beh its siz att wro tol) N) := by
  refine Ct.of (L := [(0, _), (1, _)]) (by decide) (ble rfl) rfl ?_
  refine x_iload_n 1 dX12_isSheet_0 rfl rfl ?_
  refine x_iconst (v := 0) dX12_isSheet_1 rfl ?_
  first | refine x_aload_n 0 dX12_isSheet_2 rfl rfl ?_ | refine x_aload_nN 0 dX12_isSheet_2 rfl rfl ?_
  refine x_get fX12_9 rfl dX12_isSheet_3 (by with_reducible repeat first | assumption | exact mH_0 ok | exact mH_1 | exact hset_s | refine mH_o (by first | assumption | exact nA ok (by omega) (by omega) (by omega)) (by first | assumption | exact nA ok (by omega) (by omega) (by omega)) ?_ | refine hget_n (by first | assumption | exact Ne.symm (by assumption) | exact nA ok (by omega) (by omega) (by omega)) ?_) (by rfl) ?_
  refine x_iconst (v := 2) dX12_isSheet_6 rfl ?_
  refine x_mald (i := 2) (by first | exact Eq.refl (nI _) | exact ix_p _ _ | exact ix_o _ _ | exact ix_s _ | exact ix_s1 _ _ | (rw [ix_s]; exact nI_add _ _) | exact nI_add _ 1 | exact nI_add _ 2 | exact nI_add _ 3 | exact nI_add _ 4 | (rw [ix_o0]; exact nI_add _ 3) | (rw [ix_o0]; exact nI_add _ 4) | (rw [ix_o0]; exact nI_add _ _)) dX12_isSheet_7 (by omega) rfl ?_
  refine x_iconst (v := 1) dX12_isSheet_8 rfl ?_
  refine x_isub dX12_isSheet_9 ?_
  refine x_cS1 (As := [.int _, .int _, .int _]) (ct_X12_isIn _ _ _) vX12_74 rfl rfl ⟨ble rfl, ble rfl⟩ (ble rfl) dX12_isSheet_10 rfl ?_
  refine x_zret rfl (by first | (unfold inI; (repeat' split) <;> rfl) | (unfold soldK; split <;> rfl) | rfl | (split <;> rfl) | (unfold b2i; split <;> rfl)) dX12_isSheet_13 ?_
  exact ⟨rfl, rfl⟩
set_option maxRecDepth 100000 in
set_option maxHeartbeats 4000000 in
theorem ct_X12_isOrder {l : Launch} {G : Gl} {h : Hp} {sv rem typ err lin why wha beh its siz att wro tol : Int32} {N : Nat → Int32} (ok : Ok G) (x : Int32) : CtR l G mX12_isOrder 2 [.ref (Ad G 20), .int x] (mH G h (eMd G sv rem typ err lin why wha beh its siz att wro tol) N) (some (.int (inI x 0 (N 4 - 1)))) (mH G h (eMd G sv rem typ err lin why wha beh its siz att wro tol) N) := by
  refine Ct.of (L := [(0, _), (1, _)]) (by decide) (ble rfl) rfl ?_
  refine x_iload_n 1 dX12_isOrder_0 rfl rfl ?_
  refine x_iconst (v := 0) dX12_isOrder_1 rfl ?_
  first | refine x_aload_n 0 dX12_isOrder_2 rfl rfl ?_ | refine x_aload_nN 0 dX12_isOrder_2 rfl rfl ?_
  refine x_get fX12_9 rfl dX12_isOrder_3 (by with_reducible repeat first | assumption | exact mH_0 ok | exact mH_1 | exact hset_s | refine mH_o (by first | assumption | exact nA ok (by omega) (by omega) (by omega)) (by first | assumption | exact nA ok (by omega) (by omega) (by omega)) ?_ | refine hget_n (by first | assumption | exact Ne.symm (by assumption) | exact nA ok (by omega) (by omega) (by omega)) ?_) (by rfl) ?_
  refine x_iconst (v := 4) dX12_isOrder_6 rfl ?_
  refine x_mald (i := 4) (by first | exact Eq.refl (nI _) | exact ix_p _ _ | exact ix_o _ _ | exact ix_s _ | exact ix_s1 _ _ | (rw [ix_s]; exact nI_add _ _) | exact nI_add _ 1 | exact nI_add _ 2 | exact nI_add _ 3 | exact nI_add _ 4 | (rw [ix_o0]; exact nI_add _ 3) | (rw [ix_o0]; exact nI_add _ 4) | (rw [ix_o0]; exact nI_add _ _)) dX12_isOrder_7 (by omega) rfl ?_
  refine x_iconst (v := 1) dX12_isOrder_8 rfl ?_
  refine x_isub dX12_isOrder_9 ?_
  refine x_cS1 (As := [.int _, .int _, .int _]) (ct_X12_isIn _ _ _) vX12_74 rfl rfl ⟨ble rfl, ble rfl⟩ (ble rfl) dX12_isOrder_10 rfl ?_
  refine x_zret rfl (by first | (unfold inI; (repeat' split) <;> rfl) | (unfold soldK; split <;> rfl) | rfl | (split <;> rfl) | (unfold b2i; split <;> rfl)) dX12_isOrder_13 ?_
  exact ⟨rfl, rfl⟩
set_option maxRecDepth 100000 in
set_option maxHeartbeats 4000000 in
theorem ct_X12_hinders {l : Launch} {G : Gl} {h : Hp} {sv rem typ err lin why wha beh its siz att wro tol : Int32} {N : Nat → Int32} (ok : Ok G) (c w d : Int32) : CtR l G mX12_hinders 1 [.ref (Ad G 20), .int c, .int w, .int d] (mH G h (eMd G sv rem typ err lin why wha beh its siz att wro tol) N) (none) (mH G h (eMd G sv rem typ err lin (hW c why w) (hD c why wha d) beh its siz att wro tol) N) := by
  refine Ct.of (L := [(0, _), (1, _), (2, _), (3, _)]) (by decide) (ble rfl) rfl ?_
  refine x_iload_n 1 dX12_hinders_0 rfl rfl ?_
  refine x_if_eq 21 dX12_hinders_1 (by decide) (fun c1 => ?_) (fun c1 => ?_)
  · refine x_vret rfl dX12_hinders_21 ?_
    refine ⟨rfl, ?_⟩
    first | (have z : c = 0 := (by assumption); rw [(hW_a (why := why) (w := w) (wha := wha) (d := d) z).1, (hW_a (why := why) (w := w) (wha := wha) (d := d) z).2]) | (have z : ¬ why = 0 := (by assumption); rw [(hW_b (c := c) (w := w) (wha := wha) (d := d) z).1, (hW_b (c := c) (w := w) (wha := wha) (d := d) z).2]) | (have z : ¬ c = 0 := (by assumption); have z2 : why = 0 := (by assumption); rw [(hW_c (w := w) (wha := wha) (d := d) z z2).1, (hW_c (w := w) (wha := wha) (d := d) z z2).2] <;> rfl)
  · first | refine x_aload_n 0 dX12_hinders_4 rfl rfl ?_ | refine x_aload_nN 0 dX12_hinders_4 rfl rfl ?_
    refine x_get fX12_51 rfl dX12_hinders_5 (by with_reducible repeat first | assumption | exact mH_0 ok | exact mH_1 | exact hset_s | refine mH_o (by first | assumption | exact nA ok (by omega) (by omega) (by omega)) (by first | assumption | exact nA ok (by omega) (by omega) (by omega)) ?_ | refine hget_n (by first | assumption | exact Ne.symm (by assumption) | exact nA ok (by omega) (by omega) (by omega)) ?_) (by rfl) ?_
    refine x_if_ne 21 dX12_hinders_8 (by decide) (fun c8 => ?_) (fun c8 => ?_)
    · refine x_vret rfl dX12_hinders_21 ?_
      refine ⟨rfl, ?_⟩
      first | (have z : c = 0 := (by assumption); rw [(hW_a (why := why) (w := w) (wha := wha) (d := d) z).1, (hW_a (why := why) (w := w) (wha := wha) (d := d) z).2]) | (have z : ¬ why = 0 := (by assumption); rw [(hW_b (c := c) (w := w) (wha := wha) (d := d) z).1, (hW_b (c := c) (w := w) (wha := wha) (d := d) z).2]) | (have z : ¬ c = 0 := (by assumption); have z2 : why = 0 := (by assumption); rw [(hW_c (w := w) (wha := wha) (d := d) z z2).1, (hW_c (w := w) (wha := wha) (d := d) z z2).2] <;> rfl)
    · first | refine x_aload_n 0 dX12_hinders_11 rfl rfl ?_ | refine x_aload_nN 0 dX12_hinders_11 rfl rfl ?_
      refine x_iload_n 2 dX12_hinders_12 rfl rfl ?_
      refine x_mput ok fX12_51 rfl rfl rfl rfl dX12_hinders_13 (by exact ble rfl) ?_
      first | refine x_aload_n 0 dX12_hinders_16 rfl rfl ?_ | refine x_aload_nN 0 dX12_hinders_16 rfl rfl ?_
      refine x_iload_n 3 dX12_hinders_17 rfl rfl ?_
      refine x_mput ok fX12_54 rfl rfl rfl rfl dX12_hinders_18 (by exact ble rfl) ?_
      refine x_vret rfl dX12_hinders_21 ?_
      refine ⟨rfl, ?_⟩
      first | (have z : c = 0 := (by assumption); rw [(hW_a (why := why) (w := w) (wha := wha) (d := d) z).1, (hW_a (why := why) (w := w) (wha := wha) (d := d) z).2]) | (have z : ¬ why = 0 := (by assumption); rw [(hW_b (c := c) (w := w) (wha := wha) (d := d) z).1, (hW_b (c := c) (w := w) (wha := wha) (d := d) z).2]) | (have z : ¬ c = 0 := (by assumption); have z2 : why = 0 := (by assumption); rw [(hW_c (w := w) (wha := wha) (d := d) z z2).1, (hW_c (w := w) (wha := wha) (d := d) z z2).2] <;> rfl)
