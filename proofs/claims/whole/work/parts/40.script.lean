section CALC40
variable {l : Launch} {G : Gl} {M : MM} {rm : Room} {K : List Frame → Array Value → State → State → Prop} {Q : Option Value → Hp → Prop} {mc ms pc : Nat} {L L' : List (Nat × Value)} {st : List Value} {h : Hp}
/-- a constant object into a row of references -/
theorem x_aastO {cA : ClassId} {C0 : String} {n a b : Nat} (t0 : Nat) {f : Nat → Option Nat} {i : Int32} (ht : (tysOf G)[t0]? = some (cA, .object C0)) (hd : decode M.2.1 pc = .ok (.aastore, 1)) (he : h a = some (.inl (cA, n, .inr (.inr (.inr (.inr f)))))) (hO : ∀ s : State, Sta G s → va_O C0 b G.2.2.1 s s.heap) (hw : Cond.initialized C0 ∈ lw_tbl) (hin : vp_in i n) (hA : G.2.2.1 a)
    (kk : XX l G M rm K mc ms (pc + 1) L st (hset h a (.inl (cA, n, .inr (.inr (.inr (.inr (va_up f i.toNatClampNeg (some b)))))))))  : XX l G M rm K mc ms pc L (.ref b :: .int i :: .ref a :: st) h := by
  intro p e s m args below meth c C H locs cells slots ls hR hS hl h1 h2
  have hK := C.st.1
  have hlt : i.toNatClampNeg < n := Nat.not_le.mp fun q => hin (Or.inr q)
  have h0 : ¬ i < 0 := fun q => hin (Or.inl q)
  obtain ⟨cellV, g1, g2, g3, -⟩ := (hO s C.st).kept hS.2.1
  obtain ⟨kA, comp, k1, k2, k3, -⟩ := (hK.2 t0 _ ht).2
  have hcomp : comp = cellV.cls := Option.some.inj (k3.symm.trans g3)
  subst hcomp
  have hwi := C.w (tg hw rfl)
  obtain ⟨kC, hkC⟩ : ∃ kC, s.vm.classes[cellV.cls]? = some kC := by
    cases hc : s.vm.classes[cellV.cls]? with
    | some k => exact ⟨k, rfl⟩
    | none => simp [Cond.before, Cond.holds, Cond.value, g3, hc] at hwi
  refine W.aast C.1 C.2.1 (hR a _ he) (fun q h => by cases h) (fun h => by cases h) k1 k2 rfl hkC ⟨h0, by show _ < (arrV _ _ _).slots.size; rw [arrV_size]; exact hlt⟩ g1 (fun q h => by rw [h] at g2; cases g2) hkC (by show ((cellV.cls == cellV.cls) || _) = true; rw [beq_self_eq_true, Bool.true_or]) rfl rfl hd fun H1 e z oq => ?_
  refine kk p _ s m args below meth c C H1 _ cells slots ls (hR.put ?_ oq) (hS.put z oq hA) hl h1 h2
  show H1[a]? = some (vp_cell _ _)
  rw [e]
  rw [vp_cell_q, vp_cell_q, arrV_store]
  congr 2
  funext q
  by_cases hq : q = i.toNatClampNeg
  · subst hq
    simp [updV, va_up, va_rf]
  · simp [updV, va_up, hq]
end CALC40
abbrev eSc (G : Gl) (cn att : Int32) : va_E := .inr (6, [.ref (Ad G 10), .ref (Ad G 11), .ref (Ad G 12), .ref (Ad G 13), .int cn, .int att])
def mt (tx : List Int32) (a k j : Nat) : Prop := a + j < tx.length ∧ tx.getD (a + j) 0 = tsC k j
def dgt (tx : List Int32) (a : Nat) : Prop := a < tx.length ∧ 48 ≤ tx.getD a 0 ∧ tx.getD a 0 ≤ 57
def nvI (tx : List Int32) (a : Nat) : Nat → Int32
  | 0 => -1
  | i + 1 => mx (nvI tx a i) 0 * 10 + tx.getD (a + i) 0 - 48
theorem SBT.s9 {G : Gl} {h : Hp} {tx : List Int32} {b : Nat} (ok : Ok G) (T : SBT G h (Ad G 10) tx b) (x : va_E) : SBT G (hset h (Ad G 9) x) (Ad G 10) tx b := by
  have hb : b ≠ Ad G 9 := by obtain ⟨m, ml, f, -, -, -, -, -, -, -, -, hAd⟩ := T; exact fun e => hAd 9 (Or.inl (by omega)) e.symm
  exact T.fr (P := fun a => a = Ad G 9) (Fr.rf.st rfl) (fun e => nA ok (show 10 < 3000 by omega) (show 9 < 3000 by omega) (by omega) e) hb
set_option maxRecDepth 100000 in
set_option maxHeartbeats 4000000 in
theorem ct_take_y {l : Launch} {G : Gl} {h : Hp} (ok : Ok G) {tx : List Int32} {b a : Nat} {cn : Int32} (hs : h (Ad G 9) = some (eSc G cn (nI a))) (T : SBT G h (Ad G 10) tx b) (hA : Asc tx) (h60 : tx.length ≤ 60) (ha60 : a ≤ 60) {c : Int32} (hy : a < tx.length ∧ tx.getD a 0 = c) : CtR l G mX6_take 8 [.ref (Ad G 9), .int c] h (some (.int 1)) ((hset h (Ad G 9) (eSc G cn (nI (a + 1))))) := by
  obtain ⟨mx0_, ml, f, h10, hb10, hab, hB, hl, hm, hfit, hf, hAd⟩ := id T
  have hb9 := hAd 9 (Or.inl (by omega))
  refine Ct.of (L := [(0, _), (1, _)]) (by decide) (ble rfl) rfl ?_
  first | refine x_aload_n 0 dX6_take_0 rfl rfl ?_ | refine x_aload_nN 0 dX6_take_0 rfl rfl ?_
  refine x_get fX6_35 rfl dX6_take_1 (by with_reducible repeat first | assumption | exact hset_s | refine hget_n (by first | assumption | exact Ne.symm (by assumption) | exact nA ok (by omega) (by omega) (by omega)) ?_) (by rfl) ?_
  first | refine x_aload_n 0 dX6_take_4 rfl rfl ?_ | refine x_aload_nN 0 dX6_take_4 rfl rfl ?_
  refine x_get fX6_12 rfl dX6_take_5 (by with_reducible repeat first | assumption | exact hset_s | refine hget_n (by first | assumption | exact Ne.symm (by assumption) | exact nA ok (by omega) (by omega) (by omega)) ?_) (by rfl) ?_
  refine x_cV1 (As := []) (ct_J4_length_8abf5 (by with_reducible repeat first | assumption | exact hset_s | refine hget_n (by first | assumption | exact Ne.symm (by assumption) | exact nA ok (by omega) (by omega) (by omega)) ?_)) vX6_38 rfl (x_recv (by with_reducible repeat first | assumption | exact hset_s | refine hget_n (by first | assumption | exact Ne.symm (by assumption) | exact nA ok (by omega) (by omega) (by omega)) ?_) rfl) rfl ⟨ble rfl, ble rfl⟩ (ble rfl) dX6_take_8 rfl ?_
  refine x_icmp_ge 41 dX6_take_11 (by decide) (fun z => by first | exact absurd z (nI_ge hy.1 (by omega)) | exact absurd (nI_ge hy.1 (by omega)) z) (fun _ => ?_)
  first | refine x_aload_n 0 dX6_take_14 rfl rfl ?_ | refine x_aload_nN 0 dX6_take_14 rfl rfl ?_
  refine x_get fX6_12 rfl dX6_take_15 (by with_reducible repeat first | assumption | exact hset_s | refine hget_n (by first | assumption | exact Ne.symm (by assumption) | exact nA ok (by omega) (by omega) (by omega)) ?_) (by rfl) ?_
  first | refine x_aload_n 0 dX6_take_18 rfl rfl ?_ | refine x_aload_nN 0 dX6_take_18 rfl rfl ?_
  refine x_get fX6_35 rfl dX6_take_19 (by with_reducible repeat first | assumption | exact hset_s | refine hget_n (by first | assumption | exact Ne.symm (by assumption) | exact nA ok (by omega) (by omega) (by omega)) ?_) (by rfl) ?_
  refine x_cV1 (As := [.int _]) (ct_J4_charAt_5068e T hA hy.1) vX6_62 rfl (x_recv (by with_reducible repeat first | assumption | exact hset_s | refine hget_n (by first | assumption | exact Ne.symm (by assumption) | exact nA ok (by omega) (by omega) (by omega)) ?_) rfl) rfl ⟨ble rfl, ble rfl⟩ (ble rfl) dX6_take_22 rfl ?_
  refine x_iload_n 1 dX6_take_25 rfl rfl ?_
  refine x_icmp_ne 41 dX6_take_26 (by decide) (fun z => by first | exact absurd z (fun z => z hy.2) | exact absurd (fun z => z hy.2) z) (fun _ => ?_)
  first | refine x_aload_n 0 dX6_take_29 rfl rfl ?_ | refine x_aload_nN 0 dX6_take_29 rfl rfl ?_
  refine x_dup dX6_take_30 rfl ?_
  refine x_get fX6_35 rfl dX6_take_31 (by with_reducible repeat first | assumption | exact hset_s | refine hget_n (by first | assumption | exact Ne.symm (by assumption) | exact nA ok (by omega) (by omega) (by omega)) ?_) (by rfl) ?_
  refine x_iconst (v := 1) dX6_take_34 rfl ?_
  refine x_iadd dX6_take_35 ?_
  refine x_put fX6_35 rfl rfl rfl rfl dX6_take_36 (by with_reducible repeat first | assumption | exact hset_s | refine hget_n (by first | assumption | exact Ne.symm (by assumption) | exact nA ok (by omega) (by omega) (by omega)) ?_) (by exact ble rfl) (by first | assumption | exact aA (by assumption) (by omega)) ?_
  refine x_iconst (v := 1) dX6_take_39 rfl ?_
  refine x_zret rfl (by first | rfl | (split <;> rfl) | (unfold b2i; split <;> rfl)) dX6_take_40 ?_
  refine ⟨rfl, ?_⟩
  rw [← nI_1]
  rfl
set_option maxRecDepth 100000 in
set_option maxHeartbeats 4000000 in
theorem ct_take_n {l : Launch} {G : Gl} {h : Hp} (ok : Ok G) {tx : List Int32} {b a : Nat} {cn : Int32} (hs : h (Ad G 9) = some (eSc G cn (nI a))) (T : SBT G h (Ad G 10) tx b) (hA : Asc tx) (h60 : tx.length ≤ 60) (ha60 : a ≤ 60) {c : Int32} (hy : ¬ (a < tx.length ∧ tx.getD a 0 = c)) : CtR l G mX6_take 8 [.ref (Ad G 9), .int c] h (some (.int 0)) (h) := by
  obtain ⟨mx0_, ml, f, h10, hb10, hab, hB, hl, hm, hfit, hf, hAd⟩ := id T
  have hb9 := hAd 9 (Or.inl (by omega))
  refine Ct.of (L := [(0, _), (1, _)]) (by decide) (ble rfl) rfl ?_
  first | refine x_aload_n 0 dX6_take_0 rfl rfl ?_ | refine x_aload_nN 0 dX6_take_0 rfl rfl ?_
  refine x_get fX6_35 rfl dX6_take_1 (by with_reducible repeat first | assumption | exact hset_s | refine hget_n (by first | assumption | exact Ne.symm (by assumption) | exact nA ok (by omega) (by omega) (by omega)) ?_) (by rfl) ?_
  first | refine x_aload_n 0 dX6_take_4 rfl rfl ?_ | refine x_aload_nN 0 dX6_take_4 rfl rfl ?_
  refine x_get fX6_12 rfl dX6_take_5 (by with_reducible repeat first | assumption | exact hset_s | refine hget_n (by first | assumption | exact Ne.symm (by assumption) | exact nA ok (by omega) (by omega) (by omega)) ?_) (by rfl) ?_
  refine x_cV1 (As := []) (ct_J4_length_8abf5 (by with_reducible repeat first | assumption | exact hset_s | refine hget_n (by first | assumption | exact Ne.symm (by assumption) | exact nA ok (by omega) (by omega) (by omega)) ?_)) vX6_38 rfl (x_recv (by with_reducible repeat first | assumption | exact hset_s | refine hget_n (by first | assumption | exact Ne.symm (by assumption) | exact nA ok (by omega) (by omega) (by omega)) ?_) rfl) rfl ⟨ble rfl, ble rfl⟩ (ble rfl) dX6_take_8 rfl ?_
  refine x_icmp_ge 41 dX6_take_11 (by decide) (fun c11 => ?_) (fun c11 => ?_)
  · refine x_iconst (v := 0) dX6_take_41 rfl ?_
    refine x_zret rfl (by first | rfl | (split <;> rfl) | (unfold b2i; split <;> rfl)) dX6_take_42 ?_
    first | exact ⟨rfl, rfl⟩ | exact absurd ⟨hal, c26⟩ hy
  · have hal : a < tx.length := Nat.not_le.mp fun q => c11 (nI_le q (by omega))
    first | refine x_aload_n 0 dX6_take_14 rfl rfl ?_ | refine x_aload_nN 0 dX6_take_14 rfl rfl ?_
    refine x_get fX6_12 rfl dX6_take_15 (by with_reducible repeat first | assumption | exact hset_s | refine hget_n (by first | assumption | exact Ne.symm (by assumption) | exact nA ok (by omega) (by omega) (by omega)) ?_) (by rfl) ?_
    first | refine x_aload_n 0 dX6_take_18 rfl rfl ?_ | refine x_aload_nN 0 dX6_take_18 rfl rfl ?_
    refine x_get fX6_35 rfl dX6_take_19 (by with_reducible repeat first | assumption | exact hset_s | refine hget_n (by first | assumption | exact Ne.symm (by assumption) | exact nA ok (by omega) (by omega) (by omega)) ?_) (by rfl) ?_
    refine x_cV1 (As := [.int _]) (ct_J4_charAt_5068e T hA hal) vX6_62 rfl (x_recv (by with_reducible repeat first | assumption | exact hset_s | refine hget_n (by first | assumption | exact Ne.symm (by assumption) | exact nA ok (by omega) (by omega) (by omega)) ?_) rfl) rfl ⟨ble rfl, ble rfl⟩ (ble rfl) dX6_take_22 rfl ?_
    refine x_iload_n 1 dX6_take_25 rfl rfl ?_
    refine x_icmp_ne 41 dX6_take_26 (by decide) (fun c26 => ?_) (fun c26 => ?_)
    · refine x_iconst (v := 0) dX6_take_41 rfl ?_
      refine x_zret rfl (by first | rfl | (split <;> rfl) | (unfold b2i; split <;> rfl)) dX6_take_42 ?_
      first | exact ⟨rfl, rfl⟩ | exact absurd ⟨hal, c26⟩ hy
    · first | refine x_aload_n 0 dX6_take_29 rfl rfl ?_ | refine x_aload_nN 0 dX6_take_29 rfl rfl ?_
      refine x_dup dX6_take_30 rfl ?_
      refine x_get fX6_35 rfl dX6_take_31 (by with_reducible repeat first | assumption | exact hset_s | refine hget_n (by first | assumption | exact Ne.symm (by assumption) | exact nA ok (by omega) (by omega) (by omega)) ?_) (by rfl) ?_
      refine x_iconst (v := 1) dX6_take_34 rfl ?_
      refine x_iadd dX6_take_35 ?_
      refine x_put fX6_35 rfl rfl rfl rfl dX6_take_36 (by with_reducible repeat first | assumption | exact hset_s | refine hget_n (by first | assumption | exact Ne.symm (by assumption) | exact nA ok (by omega) (by omega) (by omega)) ?_) (by exact ble rfl) (by first | assumption | exact aA (by assumption) (by omega)) ?_
      refine x_iconst (v := 1) dX6_take_39 rfl ?_
      refine x_zret rfl (by first | rfl | (split <;> rfl) | (unfold b2i; split <;> rfl)) dX6_take_40 ?_
      first | exact ⟨rfl, rfl⟩ | exact absurd ⟨hal, c26⟩ hy
set_option maxRecDepth 100000 in
set_option maxHeartbeats 4000000 in
theorem ct_dg_y {l : Launch} {G : Gl} {h : Hp} (ok : Ok G) {tx : List Int32} {b a : Nat} {cn : Int32} (hs : h (Ad G 9) = some (eSc G cn (nI a))) (T : SBT G h (Ad G 10) tx b) (hA : Asc tx) (h60 : tx.length ≤ 60) (ha60 : a ≤ 60) (hy : dgt tx a) : CtR l G mX6_isAtDigit 8 [.ref (Ad G 9)] h (some (.int 1)) (h) := by
  obtain ⟨mx0_, ml, f, h10, hb10, hab, hB, hl, hm, hfit, hf, hAd⟩ := id T
  have hb9 := hAd 9 (Or.inl (by omega))
  have hx := hy
  unfold dgt at hx
  refine Ct.of (L := [(0, _)]) (by decide) (ble rfl) rfl ?_
  first | refine x_aload_n 0 dX6_isAtDigit_0 rfl rfl ?_ | refine x_aload_nN 0 dX6_isAtDigit_0 rfl rfl ?_
  refine x_get fX6_35 rfl dX6_isAtDigit_1 (by with_reducible repeat first | assumption | exact hset_s | refine hget_n (by first | assumption | exact Ne.symm (by assumption) | exact nA ok (by omega) (by omega) (by omega)) ?_) (by rfl) ?_
  first | refine x_aload_n 0 dX6_isAtDigit_4 rfl rfl ?_ | refine x_aload_nN 0 dX6_isAtDigit_4 rfl rfl ?_
  refine x_get fX6_12 rfl dX6_isAtDigit_5 (by with_reducible repeat first | assumption | exact hset_s | refine hget_n (by first | assumption | exact Ne.symm (by assumption) | exact nA ok (by omega) (by omega) (by omega)) ?_) (by rfl) ?_
  refine x_cV1 (As := []) (ct_J4_length_8abf5 (by with_reducible repeat first | assumption | exact hset_s | refine hget_n (by first | assumption | exact Ne.symm (by assumption) | exact nA ok (by omega) (by omega) (by omega)) ?_)) vX6_38 rfl (x_recv (by with_reducible repeat first | assumption | exact hset_s | refine hget_n (by first | assumption | exact Ne.symm (by assumption) | exact nA ok (by omega) (by omega) (by omega)) ?_) rfl) rfl ⟨ble rfl, ble rfl⟩ (ble rfl) dX6_isAtDigit_8 rfl ?_
  refine x_icmp_ge 50 dX6_isAtDigit_11 (by decide) (fun c11 => ?_) (fun c11 => ?_)
  · refine x_iconst (v := 0) dX6_isAtDigit_50 rfl ?_
    refine x_zret rfl (by first | rfl | (split <;> rfl) | (unfold b2i; split <;> rfl)) dX6_isAtDigit_51 ?_
    first | exact ⟨rfl, rfl⟩ | exact absurd (nI_lt hx.1 (by omega)) (Int32.not_lt.mpr c11) | exact absurd hx.2.1 (Int32.not_le.mpr c27) | exact absurd hx.2.2 (Int32.not_le.mpr c43) | exact absurd ⟨hal, Int32.not_lt.mp c27, Int32.not_lt.mp c43⟩ hx
  · have hal : a < tx.length := Nat.not_le.mp fun q => c11 (nI_le q (by omega))
    first | refine x_aload_n 0 dX6_isAtDigit_14 rfl rfl ?_ | refine x_aload_nN 0 dX6_isAtDigit_14 rfl rfl ?_
    refine x_get fX6_12 rfl dX6_isAtDigit_15 (by with_reducible repeat first | assumption | exact hset_s | refine hget_n (by first | assumption | exact Ne.symm (by assumption) | exact nA ok (by omega) (by omega) (by omega)) ?_) (by rfl) ?_
    first | refine x_aload_n 0 dX6_isAtDigit_18 rfl rfl ?_ | refine x_aload_nN 0 dX6_isAtDigit_18 rfl rfl ?_
    refine x_get fX6_35 rfl dX6_isAtDigit_19 (by with_reducible repeat first | assumption | exact hset_s | refine hget_n (by first | assumption | exact Ne.symm (by assumption) | exact nA ok (by omega) (by omega) (by omega)) ?_) (by rfl) ?_
    refine x_cV1 (As := [.int _]) (ct_J4_charAt_5068e T hA hal) vX6_62 rfl (x_recv (by with_reducible repeat first | assumption | exact hset_s | refine hget_n (by first | assumption | exact Ne.symm (by assumption) | exact nA ok (by omega) (by omega) (by omega)) ?_) rfl) rfl ⟨ble rfl, ble rfl⟩ (ble rfl) dX6_isAtDigit_22 rfl ?_
    refine x_bipush (v := 48) dX6_isAtDigit_25 rfl ?_
    refine x_icmp_lt 50 dX6_isAtDigit_27 (by decide) (fun c27 => ?_) (fun c27 => ?_)
    · refine x_iconst (v := 0) dX6_isAtDigit_50 rfl ?_
      refine x_zret rfl (by first | rfl | (split <;> rfl) | (unfold b2i; split <;> rfl)) dX6_isAtDigit_51 ?_
      first | exact ⟨rfl, rfl⟩ | exact absurd (nI_lt hx.1 (by omega)) (Int32.not_lt.mpr c11) | exact absurd hx.2.1 (Int32.not_le.mpr c27) | exact absurd hx.2.2 (Int32.not_le.mpr c43) | exact absurd ⟨hal, Int32.not_lt.mp c27, Int32.not_lt.mp c43⟩ hx
    · first | refine x_aload_n 0 dX6_isAtDigit_30 rfl rfl ?_ | refine x_aload_nN 0 dX6_isAtDigit_30 rfl rfl ?_
      refine x_get fX6_12 rfl dX6_isAtDigit_31 (by with_reducible repeat first | assumption | exact hset_s | refine hget_n (by first | assumption | exact Ne.symm (by assumption) | exact nA ok (by omega) (by omega) (by omega)) ?_) (by rfl) ?_
      first | refine x_aload_n 0 dX6_isAtDigit_34 rfl rfl ?_ | refine x_aload_nN 0 dX6_isAtDigit_34 rfl rfl ?_
      refine x_get fX6_35 rfl dX6_isAtDigit_35 (by with_reducible repeat first | assumption | exact hset_s | refine hget_n (by first | assumption | exact Ne.symm (by assumption) | exact nA ok (by omega) (by omega) (by omega)) ?_) (by rfl) ?_
      refine x_cV1 (As := [.int _]) (ct_J4_charAt_5068e T hA hal) vX6_62 rfl (x_recv (by with_reducible repeat first | assumption | exact hset_s | refine hget_n (by first | assumption | exact Ne.symm (by assumption) | exact nA ok (by omega) (by omega) (by omega)) ?_) rfl) rfl ⟨ble rfl, ble rfl⟩ (ble rfl) dX6_isAtDigit_38 rfl ?_
      refine x_bipush (v := 57) dX6_isAtDigit_41 rfl ?_
      refine x_icmp_gt 50 dX6_isAtDigit_43 (by decide) (fun c43 => ?_) (fun c43 => ?_)
      · refine x_iconst (v := 0) dX6_isAtDigit_50 rfl ?_
        refine x_zret rfl (by first | rfl | (split <;> rfl) | (unfold b2i; split <;> rfl)) dX6_isAtDigit_51 ?_
        first | exact ⟨rfl, rfl⟩ | exact absurd (nI_lt hx.1 (by omega)) (Int32.not_lt.mpr c11) | exact absurd hx.2.1 (Int32.not_le.mpr c27) | exact absurd hx.2.2 (Int32.not_le.mpr c43) | exact absurd ⟨hal, Int32.not_lt.mp c27, Int32.not_lt.mp c43⟩ hx
      · refine x_iconst (v := 1) dX6_isAtDigit_46 rfl ?_
        refine x_goto 51 dX6_isAtDigit_47 (by decide) ?_
        refine x_zret rfl (by first | rfl | (split <;> rfl) | (unfold b2i; split <;> rfl)) dX6_isAtDigit_51 ?_
        first | exact ⟨rfl, rfl⟩ | exact absurd (nI_lt hx.1 (by omega)) (Int32.not_lt.mpr c11) | exact absurd hx.2.1 (Int32.not_le.mpr c27) | exact absurd hx.2.2 (Int32.not_le.mpr c43) | exact absurd ⟨hal, Int32.not_lt.mp c27, Int32.not_lt.mp c43⟩ hx
set_option maxRecDepth 100000 in
set_option maxHeartbeats 4000000 in
theorem ct_dg_n {l : Launch} {G : Gl} {h : Hp} (ok : Ok G) {tx : List Int32} {b a : Nat} {cn : Int32} (hs : h (Ad G 9) = some (eSc G cn (nI a))) (T : SBT G h (Ad G 10) tx b) (hA : Asc tx) (h60 : tx.length ≤ 60) (ha60 : a ≤ 60) (hy : ¬ dgt tx a) : CtR l G mX6_isAtDigit 8 [.ref (Ad G 9)] h (some (.int 0)) (h) := by
  obtain ⟨mx0_, ml, f, h10, hb10, hab, hB, hl, hm, hfit, hf, hAd⟩ := id T
  have hb9 := hAd 9 (Or.inl (by omega))
  have hx := hy
  unfold dgt at hx
  refine Ct.of (L := [(0, _)]) (by decide) (ble rfl) rfl ?_
  first | refine x_aload_n 0 dX6_isAtDigit_0 rfl rfl ?_ | refine x_aload_nN 0 dX6_isAtDigit_0 rfl rfl ?_
  refine x_get fX6_35 rfl dX6_isAtDigit_1 (by with_reducible repeat first | assumption | exact hset_s | refine hget_n (by first | assumption | exact Ne.symm (by assumption) | exact nA ok (by omega) (by omega) (by omega)) ?_) (by rfl) ?_
  first | refine x_aload_n 0 dX6_isAtDigit_4 rfl rfl ?_ | refine x_aload_nN 0 dX6_isAtDigit_4 rfl rfl ?_
  refine x_get fX6_12 rfl dX6_isAtDigit_5 (by with_reducible repeat first | assumption | exact hset_s | refine hget_n (by first | assumption | exact Ne.symm (by assumption) | exact nA ok (by omega) (by omega) (by omega)) ?_) (by rfl) ?_
  refine x_cV1 (As := []) (ct_J4_length_8abf5 (by with_reducible repeat first | assumption | exact hset_s | refine hget_n (by first | assumption | exact Ne.symm (by assumption) | exact nA ok (by omega) (by omega) (by omega)) ?_)) vX6_38 rfl (x_recv (by with_reducible repeat first | assumption | exact hset_s | refine hget_n (by first | assumption | exact Ne.symm (by assumption) | exact nA ok (by omega) (by omega) (by omega)) ?_) rfl) rfl ⟨ble rfl, ble rfl⟩ (ble rfl) dX6_isAtDigit_8 rfl ?_
  refine x_icmp_ge 50 dX6_isAtDigit_11 (by decide) (fun c11 => ?_) (fun c11 => ?_)
  · refine x_iconst (v := 0) dX6_isAtDigit_50 rfl ?_
    refine x_zret rfl (by first | rfl | (split <;> rfl) | (unfold b2i; split <;> rfl)) dX6_isAtDigit_51 ?_
    first | exact ⟨rfl, rfl⟩ | exact absurd (nI_lt hx.1 (by omega)) (Int32.not_lt.mpr c11) | exact absurd hx.2.1 (Int32.not_le.mpr c27) | exact absurd hx.2.2 (Int32.not_le.mpr c43) | exact absurd ⟨hal, Int32.not_lt.mp c27, Int32.not_lt.mp c43⟩ hx
  · have hal : a < tx.length := Nat.not_le.mp fun q => c11 (nI_le q (by omega))
    first | refine x_aload_n 0 dX6_isAtDigit_14 rfl rfl ?_ | refine x_aload_nN 0 dX6_isAtDigit_14 rfl rfl ?_
    refine x_get fX6_12 rfl dX6_isAtDigit_15 (by with_reducible repeat first | assumption | exact hset_s | refine hget_n (by first | assumption | exact Ne.symm (by assumption) | exact nA ok (by omega) (by omega) (by omega)) ?_) (by rfl) ?_
    first | refine x_aload_n 0 dX6_isAtDigit_18 rfl rfl ?_ | refine x_aload_nN 0 dX6_isAtDigit_18 rfl rfl ?_
    refine x_get fX6_35 rfl dX6_isAtDigit_19 (by with_reducible repeat first | assumption | exact hset_s | refine hget_n (by first | assumption | exact Ne.symm (by assumption) | exact nA ok (by omega) (by omega) (by omega)) ?_) (by rfl) ?_
    refine x_cV1 (As := [.int _]) (ct_J4_charAt_5068e T hA hal) vX6_62 rfl (x_recv (by with_reducible repeat first | assumption | exact hset_s | refine hget_n (by first | assumption | exact Ne.symm (by assumption) | exact nA ok (by omega) (by omega) (by omega)) ?_) rfl) rfl ⟨ble rfl, ble rfl⟩ (ble rfl) dX6_isAtDigit_22 rfl ?_
    refine x_bipush (v := 48) dX6_isAtDigit_25 rfl ?_
    refine x_icmp_lt 50 dX6_isAtDigit_27 (by decide) (fun c27 => ?_) (fun c27 => ?_)
    · refine x_iconst (v := 0) dX6_isAtDigit_50 rfl ?_
      refine x_zret rfl (by first | rfl | (split <;> rfl) | (unfold b2i; split <;> rfl)) dX6_isAtDigit_51 ?_
      first | exact ⟨rfl, rfl⟩ | exact absurd (nI_lt hx.1 (by omega)) (Int32.not_lt.mpr c11) | exact absurd hx.2.1 (Int32.not_le.mpr c27) | exact absurd hx.2.2 (Int32.not_le.mpr c43) | exact absurd ⟨hal, Int32.not_lt.mp c27, Int32.not_lt.mp c43⟩ hx
    · first | refine x_aload_n 0 dX6_isAtDigit_30 rfl rfl ?_ | refine x_aload_nN 0 dX6_isAtDigit_30 rfl rfl ?_
      refine x_get fX6_12 rfl dX6_isAtDigit_31 (by with_reducible repeat first | assumption | exact hset_s | refine hget_n (by first | assumption | exact Ne.symm (by assumption) | exact nA ok (by omega) (by omega) (by omega)) ?_) (by rfl) ?_
      first | refine x_aload_n 0 dX6_isAtDigit_34 rfl rfl ?_ | refine x_aload_nN 0 dX6_isAtDigit_34 rfl rfl ?_
      refine x_get fX6_35 rfl dX6_isAtDigit_35 (by with_reducible repeat first | assumption | exact hset_s | refine hget_n (by first | assumption | exact Ne.symm (by assumption) | exact nA ok (by omega) (by omega) (by omega)) ?_) (by rfl) ?_
      refine x_cV1 (As := [.int _]) (ct_J4_charAt_5068e T hA hal) vX6_62 rfl (x_recv (by with_reducible repeat first | assumption | exact hset_s | refine hget_n (by first | assumption | exact Ne.symm (by assumption) | exact nA ok (by omega) (by omega) (by omega)) ?_) rfl) rfl ⟨ble rfl, ble rfl⟩ (ble rfl) dX6_isAtDigit_38 rfl ?_
      refine x_bipush (v := 57) dX6_isAtDigit_41 rfl ?_
      refine x_icmp_gt 50 dX6_isAtDigit_43 (by decide) (fun c43 => ?_) (fun c43 => ?_)
      · refine x_iconst (v := 0) dX6_isAtDigit_50 rfl ?_
        refine x_zret rfl (by first | rfl | (split <;> rfl) | (unfold b2i; split <;> rfl)) dX6_isAtDigit_51 ?_
        first | exact ⟨rfl, rfl⟩ | exact absurd (nI_lt hx.1 (by omega)) (Int32.not_lt.mpr c11) | exact absurd hx.2.1 (Int32.not_le.mpr c27) | exact absurd hx.2.2 (Int32.not_le.mpr c43) | exact absurd ⟨hal, Int32.not_lt.mp c27, Int32.not_lt.mp c43⟩ hx
      · refine x_iconst (v := 1) dX6_isAtDigit_46 rfl ?_
        refine x_goto 51 dX6_isAtDigit_47 (by decide) ?_
        refine x_zret rfl (by first | rfl | (split <;> rfl) | (unfold b2i; split <;> rfl)) dX6_isAtDigit_51 ?_
        first | exact ⟨rfl, rfl⟩ | exact absurd (nI_lt hx.1 (by omega)) (Int32.not_lt.mpr c11) | exact absurd hx.2.1 (Int32.not_le.mpr c27) | exact absurd hx.2.2 (Int32.not_le.mpr c43) | exact absurd ⟨hal, Int32.not_lt.mp c27, Int32.not_lt.mp c43⟩ hx
set_option maxRecDepth 100000 in
set_option maxHeartbeats 4000000 in
theorem ct_tw_y {l : Launch} {G : Gl} {h : Hp} (ok : Ok G) {tx : List Int32} {b a : Nat} {cn : Int32} (hs : h (Ad G 9) = some (eSc G cn (nI a))) (T : SBT G h (Ad G 10) tx b) (hA : Asc tx) (h60 : tx.length ≤ 60) (ha60 : a ≤ 60) {k : Nat} (hk : k < 12) (hak : a + tsLen k ≤ 110) (hm_ : ∀ j, j < tsLen k → mt tx a k j) : CtR l G mX6_takeWord 9 [.ref (Ad G 9), .ref (G.2.2.2 (20 + k))] h (some (.int 1)) ((hset h (Ad G 9) (eSc G cn (nI (a + tsLen k))))) := by
  have hL := tsLen_le k hk
  obtain ⟨mx0_, ml, f, h10, hb10, hab, hB, hl, hm, hfit, hf, hAd⟩ := id T
  have hb9 := hAd 9 (Or.inl (by omega))
  refine Ct.of (L := [(0, _), (1, _)]) (by decide) (ble rfl) rfl ?_
  refine x_iconst (v := 0) dX6_takeWord_0 rfl ?_
  refine x_istore_n (L' := [(2, _), (0, _), (1, _)]) dX6_takeWord_1 rfl (ble rfl) rfl ?_
  refine x_eqH (h' := (hset h (Ad G 9) (eSc G cn (nI (a + 0))))) (hset_self hs).symm ?_
  refine x_locs (L' := [(2, _), (0, _), (1, _)]) [0, 1, 2] rfl ?_
  refine dn (P := fun i => XX l G mX6_takeWord (Rm 9 0 0) (KQ G (Rm 9 0 0) (fun w h' => w = some (.int 1) ∧ h' = (hset h (Ad G 9) (eSc G cn (nI (a + tsLen k)))))) 0 0 2 [(2, .int (nI i)), (0, .ref (Ad G 9)), (1, .ref (G.2.2.2 (20 + k)))] [] (hset h (Ad G 9) (eSc G cn (nI (a + i))))) (n := tsLen k) ?_ (fun i hi ihi => ?_)
  · refine x_iload_n 0 dX6_takeWord_2 rfl rfl ?_
    first | refine x_aload_n 2 dX6_takeWord_3 rfl rfl ?_ | refine x_aload_nN 2 dX6_takeWord_3 rfl rfl ?_
    refine x_cV1 (As := []) (ct_J0_length_8abf5 hk) vX6_85 rfl (x_recvO (zT_obj hk)) rfl ⟨ble rfl, ble rfl⟩ (ble rfl) dX6_takeWord_4 rfl ?_
    refine x_icmp_ge 30 dX6_takeWord_7 (by decide) (fun _ => ?_) (fun z => by first | exact absurd (Int32.le_refl _) z | exact absurd z (Int32.le_refl _))
    refine x_iconst (v := 1) dX6_takeWord_30 rfl ?_
    refine x_zret rfl (by first | rfl | (split <;> rfl) | (unfold b2i; split <;> rfl)) dX6_takeWord_31 ?_
    exact ⟨rfl, rfl⟩
  · have T1 := T.s9 ok (eSc G cn (nI (a + i)))
    have hs1 := hset_s (h := h) (a := Ad G 9) (e := eSc G cn (nI (a + i)))
    have hmi := hm_ i (by omega)
    have hik : i < tsLen k := by omega
    unfold mt at hmi
    refine x_iload_n 0 dX6_takeWord_2 rfl rfl ?_
    first | refine x_aload_n 2 dX6_takeWord_3 rfl rfl ?_ | refine x_aload_nN 2 dX6_takeWord_3 rfl rfl ?_
    refine x_cV1 (As := []) (ct_J0_length_8abf5 hk) vX6_85 rfl (x_recvO (zT_obj hk)) rfl ⟨ble rfl, ble rfl⟩ (ble rfl) dX6_takeWord_4 rfl ?_
    refine x_icmp_ge 30 dX6_takeWord_7 (by decide) (fun z => by first | exact absurd z (nI_ge (by omega) (by omega)) | exact absurd (nI_ge (by omega) (by omega)) z) (fun _ => ?_)
    first | refine x_aload_n 1 dX6_takeWord_10 rfl rfl ?_ | refine x_aload_nN 1 dX6_takeWord_10 rfl rfl ?_
    first | refine x_aload_n 2 dX6_takeWord_11 rfl rfl ?_ | refine x_aload_nN 2 dX6_takeWord_11 rfl rfl ?_
    refine x_iload_n 0 dX6_takeWord_12 rfl rfl ?_
    refine x_cV1 (As := [.int _]) (ct_J0_charAt_5068e hk hik) vX6_88 rfl (x_recvO (zT_obj hk)) rfl ⟨ble rfl, ble rfl⟩ (ble rfl) dX6_takeWord_13 rfl ?_
    refine x_cV1 (As := [.int _]) (ct_take_y ok hs1 T1 hA h60 (by omega) hmi) vX6_58 rfl (x_recv (by with_reducible repeat first | assumption | exact hset_s | refine hget_n (by first | assumption | exact Ne.symm (by assumption) | exact nA ok (by omega) (by omega) (by omega)) ?_) rfl) rfl ⟨ble rfl, ble rfl⟩ (ble rfl) dX6_takeWord_16 rfl ?_
    refine x_if_ne 24 dX6_takeWord_19 (by decide) (fun _ => ?_) (fun z => by first | exact absurd (show ¬ (1 : Int32) = 0 by decide) z | exact absurd z (show ¬ (1 : Int32) = 0 by decide))
    refine x_iinc (L' := [(2, _), (0, _), (1, _)]) (j := 0) (nI (_ + 1)) dX6_takeWord_24 rfl (nI_1 _) (ble rfl) rfl ?_
    refine x_goto 2 dX6_takeWord_27 (by decide) ?_
    refine x_locs (L' := [(2, _), (0, _), (1, _)]) [0, 1, 2] rfl ?_
    rw [hset_2, Nat.add_assoc]
    exact ihi
set_option maxRecDepth 100000 in
set_option maxHeartbeats 4000000 in
theorem ct_tw_n {l : Launch} {G : Gl} {h : Hp} (ok : Ok G) {tx : List Int32} {b a : Nat} {cn : Int32} (hs : h (Ad G 9) = some (eSc G cn (nI a))) (T : SBT G h (Ad G 10) tx b) (hA : Asc tx) (h60 : tx.length ≤ 60) (ha60 : a ≤ 60) {k : Nat} (hk : k < 12) (hak : a + tsLen k ≤ 110) {j : Nat} (hj : j < tsLen k) (hm_ : ∀ i, i < j → mt tx a k i) (hn : ¬ mt tx a k j) : CtR l G mX6_takeWord 9 [.ref (Ad G 9), .ref (G.2.2.2 (20 + k))] h (some (.int 0)) ((hset h (Ad G 9) (eSc G cn (nI (a + j))))) := by
  have hL := tsLen_le k hk
  obtain ⟨mx0_, ml, f, h10, hb10, hab, hB, hl, hm, hfit, hf, hAd⟩ := id T
  have hb9 := hAd 9 (Or.inl (by omega))
  have haj : a + j ≤ 60 := by
    rcases Nat.eq_zero_or_pos j with z | z
    · omega
    · have := (hm_ (j - 1) (by omega)).1; omega
  refine Ct.of (L := [(0, _), (1, _)]) (by decide) (ble rfl) rfl ?_
  refine x_iconst (v := 0) dX6_takeWord_0 rfl ?_
  refine x_istore_n (L' := [(2, _), (0, _), (1, _)]) dX6_takeWord_1 rfl (ble rfl) rfl ?_
  refine x_eqH (h' := (hset h (Ad G 9) (eSc G cn (nI (a + 0))))) (hset_self hs).symm ?_
  refine x_locs (L' := [(2, _), (0, _), (1, _)]) [0, 1, 2] rfl ?_
  refine dn (P := fun i => XX l G mX6_takeWord (Rm 9 0 0) (KQ G (Rm 9 0 0) (fun w h' => w = some (.int 0) ∧ h' = (hset h (Ad G 9) (eSc G cn (nI (a + j)))))) 0 0 2 [(2, .int (nI i)), (0, .ref (Ad G 9)), (1, .ref (G.2.2.2 (20 + k)))] [] (hset h (Ad G 9) (eSc G cn (nI (a + i))))) (n := j) ?_ (fun i hi ihi => ?_)
  · have T1 := T.s9 ok (eSc G cn (nI (a + j)))
    have hs1 := hset_s (h := h) (a := Ad G 9) (e := eSc G cn (nI (a + j)))
    unfold mt at hn
    have hik := hj
    refine x_iload_n 0 dX6_takeWord_2 rfl rfl ?_
    first | refine x_aload_n 2 dX6_takeWord_3 rfl rfl ?_ | refine x_aload_nN 2 dX6_takeWord_3 rfl rfl ?_
    refine x_cV1 (As := []) (ct_J0_length_8abf5 hk) vX6_85 rfl (x_recvO (zT_obj hk)) rfl ⟨ble rfl, ble rfl⟩ (ble rfl) dX6_takeWord_4 rfl ?_
    refine x_icmp_ge 30 dX6_takeWord_7 (by decide) (fun z => by first | exact absurd z (nI_ge hj (by omega)) | exact absurd (nI_ge hj (by omega)) z) (fun _ => ?_)
    first | refine x_aload_n 1 dX6_takeWord_10 rfl rfl ?_ | refine x_aload_nN 1 dX6_takeWord_10 rfl rfl ?_
    first | refine x_aload_n 2 dX6_takeWord_11 rfl rfl ?_ | refine x_aload_nN 2 dX6_takeWord_11 rfl rfl ?_
    refine x_iload_n 0 dX6_takeWord_12 rfl rfl ?_
    refine x_cV1 (As := [.int _]) (ct_J0_charAt_5068e hk hik) vX6_88 rfl (x_recvO (zT_obj hk)) rfl ⟨ble rfl, ble rfl⟩ (ble rfl) dX6_takeWord_13 rfl ?_
    refine x_cV1 (As := [.int _]) (ct_take_n ok hs1 T1 hA h60 (by omega) hn) vX6_58 rfl (x_recv (by with_reducible repeat first | assumption | exact hset_s | refine hget_n (by first | assumption | exact Ne.symm (by assumption) | exact nA ok (by omega) (by omega) (by omega)) ?_) rfl) rfl ⟨ble rfl, ble rfl⟩ (ble rfl) dX6_takeWord_16 rfl ?_
    refine x_if_ne 24 dX6_takeWord_19 (by decide) (fun z => by first | exact absurd z (fun z => z rfl) | exact absurd (fun z => z rfl) z) (fun _ => ?_)
    refine x_iconst (v := 0) dX6_takeWord_22 rfl ?_
    refine x_zret rfl (by first | rfl | (split <;> rfl) | (unfold b2i; split <;> rfl)) dX6_takeWord_23 ?_
    exact ⟨rfl, rfl⟩
  · have T1 := T.s9 ok (eSc G cn (nI (a + i)))
    have hs1 := hset_s (h := h) (a := Ad G 9) (e := eSc G cn (nI (a + i)))
    have hmi := hm_ i (by omega)
    have hik : i < tsLen k := by omega
    unfold mt at hmi
    refine x_iload_n 0 dX6_takeWord_2 rfl rfl ?_
    first | refine x_aload_n 2 dX6_takeWord_3 rfl rfl ?_ | refine x_aload_nN 2 dX6_takeWord_3 rfl rfl ?_
    refine x_cV1 (As := []) (ct_J0_length_8abf5 hk) vX6_85 rfl (x_recvO (zT_obj hk)) rfl ⟨ble rfl, ble rfl⟩ (ble rfl) dX6_takeWord_4 rfl ?_
    refine x_icmp_ge 30 dX6_takeWord_7 (by decide) (fun z => by first | exact absurd z (nI_ge (by omega) (by omega)) | exact absurd (nI_ge (by omega) (by omega)) z) (fun _ => ?_)
    first | refine x_aload_n 1 dX6_takeWord_10 rfl rfl ?_ | refine x_aload_nN 1 dX6_takeWord_10 rfl rfl ?_
    first | refine x_aload_n 2 dX6_takeWord_11 rfl rfl ?_ | refine x_aload_nN 2 dX6_takeWord_11 rfl rfl ?_
    refine x_iload_n 0 dX6_takeWord_12 rfl rfl ?_
    refine x_cV1 (As := [.int _]) (ct_J0_charAt_5068e hk hik) vX6_88 rfl (x_recvO (zT_obj hk)) rfl ⟨ble rfl, ble rfl⟩ (ble rfl) dX6_takeWord_13 rfl ?_
    refine x_cV1 (As := [.int _]) (ct_take_y ok hs1 T1 hA h60 (by omega) hmi) vX6_58 rfl (x_recv (by with_reducible repeat first | assumption | exact hset_s | refine hget_n (by first | assumption | exact Ne.symm (by assumption) | exact nA ok (by omega) (by omega) (by omega)) ?_) rfl) rfl ⟨ble rfl, ble rfl⟩ (ble rfl) dX6_takeWord_16 rfl ?_
    refine x_if_ne 24 dX6_takeWord_19 (by decide) (fun _ => ?_) (fun z => by first | exact absurd (show ¬ (1 : Int32) = 0 by decide) z | exact absurd z (show ¬ (1 : Int32) = 0 by decide))
    refine x_iinc (L' := [(2, _), (0, _), (1, _)]) (j := 0) (nI (_ + 1)) dX6_takeWord_24 rfl (nI_1 _) (ble rfl) rfl ?_
    refine x_goto 2 dX6_takeWord_27 (by decide) ?_
    refine x_locs (L' := [(2, _), (0, _), (1, _)]) [0, 1, 2] rfl ?_
    rw [hset_2, Nat.add_assoc]
    exact ihi
set_option maxRecDepth 100000 in
set_option maxHeartbeats 4000000 in
theorem ct_tn_f {l : Launch} {G : Gl} {h : Hp} (ok : Ok G) {tx : List Int32} {b a : Nat} {cn : Int32} (hs : h (Ad G 9) = some (eSc G cn (nI a))) (T : SBT G h (Ad G 10) tx b) (hA : Asc tx) (h60 : tx.length ≤ 60) (ha60 : a ≤ 60) {md : Nat} (hmd : md ≤ 2) (hd_ : ∀ i, i < md → dgt tx (a + i)) : CtR l G mX6_takeNumber 9 [.ref (Ad G 9), .int (nI md)] h (some (.int (nvI tx a md))) ((hset h (Ad G 9) (eSc G cn (nI (a + md))))) := by
  obtain ⟨mx0_, ml, f, h10, hb10, hab, hB, hl, hm, hfit, hf, hAd⟩ := id T
  have hb9 := hAd 9 (Or.inl (by omega))
  refine Ct.of (L := [(0, _), (1, _)]) (by decide) (ble rfl) rfl ?_
  refine x_iconst (v := -1) dX6_takeNumber_0 rfl ?_
  refine x_istore_n (L' := [(2, _), (0, _), (1, _)]) dX6_takeNumber_1 rfl (ble rfl) rfl ?_
  refine x_iconst (v := 0) dX6_takeNumber_2 rfl ?_
  refine x_istore_n (L' := [(3, _), (2, _), (0, _), (1, _)]) dX6_takeNumber_3 rfl (ble rfl) rfl ?_
  refine x_eqH (h' := (hset h (Ad G 9) (eSc G cn (nI (a + 0))))) (hset_self hs).symm ?_
  refine x_locs (L' := [(3, _), (2, _), (0, _), (1, _)]) [0, 1, 2, 3] rfl ?_
  refine dn (P := fun i => XX l G mX6_takeNumber (Rm 9 0 0) (KQ G (Rm 9 0 0) (fun w h' => w = some (.int (nvI tx a md)) ∧ h' = (hset h (Ad G 9) (eSc G cn (nI (a + md)))))) 0 0 4 [(3, .int (nI i)), (2, .int (nvI tx a i)), (0, .ref (Ad G 9)), (1, .int (nI md))] [] (hset h (Ad G 9) (eSc G cn (nI (a + i))))) (n := md) ?_ (fun i hi ihi => ?_)
  · refine x_iload_n 0 dX6_takeNumber_4 rfl rfl ?_
    refine x_iload_n 3 dX6_takeNumber_5 rfl rfl ?_
    refine x_icmp_ge 56 dX6_takeNumber_6 (by decide) (fun _ => ?_) (fun z => by first | exact absurd (Int32.le_refl _) z | exact absurd z (Int32.le_refl _))
    refine x_iload_n 1 dX6_takeNumber_56 rfl rfl ?_
    refine x_iret rfl dX6_takeNumber_57 ?_
    exact ⟨rfl, rfl⟩
  · have T1 := T.s9 ok (eSc G cn (nI (a + i)))
    have hs1 := hset_s (h := h) (a := Ad G 9) (e := eSc G cn (nI (a + i)))
    have hdi := hd_ i (by omega)
    have hal := hdi.1
    have h10b := hget_n (h := h) (a := Ad G 9) (e := eSc G cn (nI (a + i))) (nA ok (show 10 < 3000 by omega) (show 9 < 3000 by omega) (by omega)) h10
    refine x_iload_n 0 dX6_takeNumber_4 rfl rfl ?_
    refine x_iload_n 3 dX6_takeNumber_5 rfl rfl ?_
    refine x_icmp_ge 56 dX6_takeNumber_6 (by decide) (fun z => by first | exact absurd z (nI_ge (by omega) (by omega)) | exact absurd (nI_ge (by omega) (by omega)) z) (fun _ => ?_)
    first | refine x_aload_n 2 dX6_takeNumber_9 rfl rfl ?_ | refine x_aload_nN 2 dX6_takeNumber_9 rfl rfl ?_
    refine x_cV1 (As := []) (ct_dg_y ok hs1 T1 hA h60 (by have := hdi.1; omega) hdi) vX6_89 rfl (x_recv (by with_reducible repeat first | assumption | exact hset_s | refine hget_n (by first | assumption | exact Ne.symm (by assumption) | exact nA ok (by omega) (by omega) (by omega)) ?_) rfl) rfl ⟨ble rfl, ble rfl⟩ (ble rfl) dX6_takeNumber_10 rfl ?_
    refine x_if_eq 56 dX6_takeNumber_13 (by decide) (fun z => by first | exact absurd z (show ¬ (1 : Int32) = 0 by decide) | exact absurd (show ¬ (1 : Int32) = 0 by decide) z) (fun _ => ?_)
    refine x_iload_n 1 dX6_takeNumber_16 rfl rfl ?_
    refine x_iconst (v := 0) dX6_takeNumber_17 rfl ?_
    refine x_mmax rfl wX6_93 wMmax2 wMath3 wMmax4 (ble rfl) (ble rfl) dX6_takeNumber_18 ?_
    refine x_bipush (v := 10) dX6_takeNumber_21 rfl ?_
    refine x_imul dX6_takeNumber_23 ?_
    first | refine x_aload_n 2 dX6_takeNumber_24 rfl rfl ?_ | refine x_aload_nN 2 dX6_takeNumber_24 rfl rfl ?_
    refine x_get fX6_12 rfl dX6_takeNumber_25 (by with_reducible repeat first | assumption | exact hset_s | refine hget_n (by first | assumption | exact Ne.symm (by assumption) | exact nA ok (by omega) (by omega) (by omega)) ?_) (by rfl) ?_
    first | refine x_aload_n 2 dX6_takeNumber_28 rfl rfl ?_ | refine x_aload_nN 2 dX6_takeNumber_28 rfl rfl ?_
    refine x_get fX6_35 rfl dX6_takeNumber_29 (by with_reducible repeat first | assumption | exact hset_s | refine hget_n (by first | assumption | exact Ne.symm (by assumption) | exact nA ok (by omega) (by omega) (by omega)) ?_) (by rfl) ?_
    refine x_cV1 (As := [.int _]) (ct_J4_charAt_5068e T1 hA hal) vX6_62 rfl (x_recv (by with_reducible repeat first | assumption | exact hset_s | refine hget_n (by first | assumption | exact Ne.symm (by assumption) | exact nA ok (by omega) (by omega) (by omega)) ?_) rfl) rfl ⟨ble rfl, ble rfl⟩ (ble rfl) dX6_takeNumber_32 rfl ?_
    refine x_iadd dX6_takeNumber_35 ?_
    refine x_bipush (v := 48) dX6_takeNumber_36 rfl ?_
    refine x_isub dX6_takeNumber_38 ?_
    refine x_istore_n (L' := [(2, _), (3, _), (0, _), (1, _)]) dX6_takeNumber_39 rfl (ble rfl) rfl ?_
    first | refine x_aload_n 2 dX6_takeNumber_40 rfl rfl ?_ | refine x_aload_nN 2 dX6_takeNumber_40 rfl rfl ?_
    refine x_dup dX6_takeNumber_41 rfl ?_
    refine x_get fX6_35 rfl dX6_takeNumber_42 (by with_reducible repeat first | assumption | exact hset_s | refine hget_n (by first | assumption | exact Ne.symm (by assumption) | exact nA ok (by omega) (by omega) (by omega)) ?_) (by rfl) ?_
    refine x_iconst (v := 1) dX6_takeNumber_45 rfl ?_
    refine x_iadd dX6_takeNumber_46 ?_
    refine x_put fX6_35 rfl rfl rfl rfl dX6_takeNumber_47 (by with_reducible repeat first | assumption | exact hset_s | refine hget_n (by first | assumption | exact Ne.symm (by assumption) | exact nA ok (by omega) (by omega) (by omega)) ?_) (by exact ble rfl) (by first | assumption | exact aA (by assumption) (by omega)) ?_
    refine x_iinc (L' := [(3, _), (2, _), (0, _), (1, _)]) (j := 1) (nI (_ + 1)) dX6_takeNumber_50 rfl (nI_1 _) (ble rfl) rfl ?_
    refine x_goto 4 dX6_takeNumber_53 (by decide) ?_
    refine x_locs (L' := [(3, _), (2, _), (0, _), (1, _)]) [0, 1, 2, 3] rfl ?_
    rw [hset_2, nI_1, Nat.add_assoc]
    exact ihi
set_option maxRecDepth 100000 in
set_option maxHeartbeats 4000000 in
theorem ct_tn_s {l : Launch} {G : Gl} {h : Hp} (ok : Ok G) {tx : List Int32} {b a : Nat} {cn : Int32} (hs : h (Ad G 9) = some (eSc G cn (nI a))) (T : SBT G h (Ad G 10) tx b) (hA : Asc tx) (h60 : tx.length ≤ 60) (ha60 : a ≤ 60) {n md : Nat} (hmd : md ≤ 2) (hn : n < md) (hd_ : ∀ i, i < n → dgt tx (a + i)) (hx : ¬ dgt tx (a + n)) : CtR l G mX6_takeNumber 9 [.ref (Ad G 9), .int (nI md)] h (some (.int (nvI tx a n))) ((hset h (Ad G 9) (eSc G cn (nI (a + n))))) := by
  obtain ⟨mx0_, ml, f, h10, hb10, hab, hB, hl, hm, hfit, hf, hAd⟩ := id T
  have hb9 := hAd 9 (Or.inl (by omega))
  have han : a + n ≤ 60 := by
    rcases Nat.eq_zero_or_pos n with z | z
    · omega
    · have := (hd_ (n - 1) (by omega)).1; omega
  refine Ct.of (L := [(0, _), (1, _)]) (by decide) (ble rfl) rfl ?_
  refine x_iconst (v := -1) dX6_takeNumber_0 rfl ?_
  refine x_istore_n (L' := [(2, _), (0, _), (1, _)]) dX6_takeNumber_1 rfl (ble rfl) rfl ?_
  refine x_iconst (v := 0) dX6_takeNumber_2 rfl ?_
  refine x_istore_n (L' := [(3, _), (2, _), (0, _), (1, _)]) dX6_takeNumber_3 rfl (ble rfl) rfl ?_
  refine x_eqH (h' := (hset h (Ad G 9) (eSc G cn (nI (a + 0))))) (hset_self hs).symm ?_
  refine x_locs (L' := [(3, _), (2, _), (0, _), (1, _)]) [0, 1, 2, 3] rfl ?_
  refine dn (P := fun i => XX l G mX6_takeNumber (Rm 9 0 0) (KQ G (Rm 9 0 0) (fun w h' => w = some (.int (nvI tx a n)) ∧ h' = (hset h (Ad G 9) (eSc G cn (nI (a + n)))))) 0 0 4 [(3, .int (nI i)), (2, .int (nvI tx a i)), (0, .ref (Ad G 9)), (1, .int (nI md))] [] (hset h (Ad G 9) (eSc G cn (nI (a + i))))) (n := n) ?_ (fun i hi ihi => ?_)
  · have T1 := T.s9 ok (eSc G cn (nI (a + n)))
    have hs1 := hset_s (h := h) (a := Ad G 9) (e := eSc G cn (nI (a + n)))
    refine x_iload_n 0 dX6_takeNumber_4 rfl rfl ?_
    refine x_iload_n 3 dX6_takeNumber_5 rfl rfl ?_
    refine x_icmp_ge 56 dX6_takeNumber_6 (by decide) (fun z => by first | exact absurd z (nI_ge hn (by omega)) | exact absurd (nI_ge hn (by omega)) z) (fun _ => ?_)
    first | refine x_aload_n 2 dX6_takeNumber_9 rfl rfl ?_ | refine x_aload_nN 2 dX6_takeNumber_9 rfl rfl ?_
    refine x_cV1 (As := []) (ct_dg_n ok hs1 T1 hA h60 (by omega) hx) vX6_89 rfl (x_recv (by with_reducible repeat first | assumption | exact hset_s | refine hget_n (by first | assumption | exact Ne.symm (by assumption) | exact nA ok (by omega) (by omega) (by omega)) ?_) rfl) rfl ⟨ble rfl, ble rfl⟩ (ble rfl) dX6_takeNumber_10 rfl ?_
    refine x_if_eq 56 dX6_takeNumber_13 (by decide) (fun _ => ?_) (fun z => by first | exact absurd (rfl) z | exact absurd z (rfl))
    refine x_iload_n 1 dX6_takeNumber_56 rfl rfl ?_
    refine x_iret rfl dX6_takeNumber_57 ?_
    exact ⟨rfl, rfl⟩
  · have T1 := T.s9 ok (eSc G cn (nI (a + i)))
    have hs1 := hset_s (h := h) (a := Ad G 9) (e := eSc G cn (nI (a + i)))
    have hdi := hd_ i (by omega)
    have hal := hdi.1
    have h10b := hget_n (h := h) (a := Ad G 9) (e := eSc G cn (nI (a + i))) (nA ok (show 10 < 3000 by omega) (show 9 < 3000 by omega) (by omega)) h10
    refine x_iload_n 0 dX6_takeNumber_4 rfl rfl ?_
    refine x_iload_n 3 dX6_takeNumber_5 rfl rfl ?_
    refine x_icmp_ge 56 dX6_takeNumber_6 (by decide) (fun z => by first | exact absurd z (nI_ge (by omega) (by omega)) | exact absurd (nI_ge (by omega) (by omega)) z) (fun _ => ?_)
    first | refine x_aload_n 2 dX6_takeNumber_9 rfl rfl ?_ | refine x_aload_nN 2 dX6_takeNumber_9 rfl rfl ?_
    refine x_cV1 (As := []) (ct_dg_y ok hs1 T1 hA h60 (by have := hdi.1; omega) hdi) vX6_89 rfl (x_recv (by with_reducible repeat first | assumption | exact hset_s | refine hget_n (by first | assumption | exact Ne.symm (by assumption) | exact nA ok (by omega) (by omega) (by omega)) ?_) rfl) rfl ⟨ble rfl, ble rfl⟩ (ble rfl) dX6_takeNumber_10 rfl ?_
    refine x_if_eq 56 dX6_takeNumber_13 (by decide) (fun z => by first | exact absurd z (show ¬ (1 : Int32) = 0 by decide) | exact absurd (show ¬ (1 : Int32) = 0 by decide) z) (fun _ => ?_)
    refine x_iload_n 1 dX6_takeNumber_16 rfl rfl ?_
    refine x_iconst (v := 0) dX6_takeNumber_17 rfl ?_
    refine x_mmax rfl wX6_93 wMmax2 wMath3 wMmax4 (ble rfl) (ble rfl) dX6_takeNumber_18 ?_
    refine x_bipush (v := 10) dX6_takeNumber_21 rfl ?_
    refine x_imul dX6_takeNumber_23 ?_
    first | refine x_aload_n 2 dX6_takeNumber_24 rfl rfl ?_ | refine x_aload_nN 2 dX6_takeNumber_24 rfl rfl ?_
    refine x_get fX6_12 rfl dX6_takeNumber_25 (by with_reducible repeat first | assumption | exact hset_s | refine hget_n (by first | assumption | exact Ne.symm (by assumption) | exact nA ok (by omega) (by omega) (by omega)) ?_) (by rfl) ?_
    first | refine x_aload_n 2 dX6_takeNumber_28 rfl rfl ?_ | refine x_aload_nN 2 dX6_takeNumber_28 rfl rfl ?_
    refine x_get fX6_35 rfl dX6_takeNumber_29 (by with_reducible repeat first | assumption | exact hset_s | refine hget_n (by first | assumption | exact Ne.symm (by assumption) | exact nA ok (by omega) (by omega) (by omega)) ?_) (by rfl) ?_
    refine x_cV1 (As := [.int _]) (ct_J4_charAt_5068e T1 hA hal) vX6_62 rfl (x_recv (by with_reducible repeat first | assumption | exact hset_s | refine hget_n (by first | assumption | exact Ne.symm (by assumption) | exact nA ok (by omega) (by omega) (by omega)) ?_) rfl) rfl ⟨ble rfl, ble rfl⟩ (ble rfl) dX6_takeNumber_32 rfl ?_
    refine x_iadd dX6_takeNumber_35 ?_
    refine x_bipush (v := 48) dX6_takeNumber_36 rfl ?_
    refine x_isub dX6_takeNumber_38 ?_
    refine x_istore_n (L' := [(2, _), (3, _), (0, _), (1, _)]) dX6_takeNumber_39 rfl (ble rfl) rfl ?_
    first | refine x_aload_n 2 dX6_takeNumber_40 rfl rfl ?_ | refine x_aload_nN 2 dX6_takeNumber_40 rfl rfl ?_
    refine x_dup dX6_takeNumber_41 rfl ?_
    refine x_get fX6_35 rfl dX6_takeNumber_42 (by with_reducible repeat first | assumption | exact hset_s | refine hget_n (by first | assumption | exact Ne.symm (by assumption) | exact nA ok (by omega) (by omega) (by omega)) ?_) (by rfl) ?_
    refine x_iconst (v := 1) dX6_takeNumber_45 rfl ?_
    refine x_iadd dX6_takeNumber_46 ?_
    refine x_put fX6_35 rfl rfl rfl rfl dX6_takeNumber_47 (by with_reducible repeat first | assumption | exact hset_s | refine hget_n (by first | assumption | exact Ne.symm (by assumption) | exact nA ok (by omega) (by omega) (by omega)) ?_) (by exact ble rfl) (by first | assumption | exact aA (by assumption) (by omega)) ?_
    refine x_iinc (L' := [(3, _), (2, _), (0, _), (1, _)]) (j := 1) (nI (_ + 1)) dX6_takeNumber_50 rfl (nI_1 _) (ble rfl) rfl ?_
    refine x_goto 4 dX6_takeNumber_53 (by decide) ?_
    refine x_locs (L' := [(3, _), (2, _), (0, _), (1, _)]) [0, 1, 2, 3] rfl ?_
    rw [hset_2, nI_1, Nat.add_assoc]
    exact ihi
