def Sem (tx : List Int32) (a : Nat) : Prop := a < tx.length ∧ tx.getD a 0 = 59
abbrev CmL : Type := List (Nat × Int32 × Int32)
/-- a text from a on that is right: its commands -/
def Txt (tx : List Int32) : Nat → CmL → Prop
  | _, [] => False
  | a, c :: r => ∃ a', Cmd tx a c.1 c.2.1 c.2.2 a' ∧ ((r = [] ∧ a' = tx.length) ∨ (Sem tx a' ∧ ¬ r = [] ∧ Txt tx (a' + 1) r))
/-- one that isn't: its fault, behind k commands -/
def TxF (tx : List Int32) (p : Nat) : Nat → Nat → Prop
  | a, 0 => Flt tx a p ∨ ∃ v f s, Cmd tx a v f s p ∧ ¬ p = tx.length ∧ ¬ Sem tx p
  | a, k + 1 => ∃ v f s a', Cmd tx a v f s a' ∧ Sem tx a' ∧ TxF tx p (a' + 1) k
theorem Dg.le {tx : List Int32} {a n md : Nat} (D : Dg tx a n md) (hn : 0 < n) : a + n ≤ tx.length := by
  have := (D.2.1 (n - 1) (by omega)).1
  omega
theorem wl_3 : ∀ v, v < 6 → 3 ≤ wl v ∧ (v = 5 → wl v = 4) := by decide +kernel
theorem Cmd.le {tx : List Int32} {a v a' : Nat} {f s : Int32} (C : Cmd tx a v f s a') : a + 6 ≤ a' ∧ a' ≤ tx.length := by
  obtain ⟨hv, hw, hb, n, hn, D, -, C⟩ := C
  have h3 := wl_3 v hv
  have h1 := D.le hn
  rcases C with ⟨h5, -, rfl⟩ | ⟨h5, hb2, n2, hn2, D2, -, rfl⟩
  · have := h3.2 h5
    omega
  · have := D2.le hn2
    omega
theorem txt_or (tx : List Int32) : ∀ (m a : Nat), tx.length + 1 ≤ a + m → a ≤ tx.length → (∃ cs, Txt tx a cs) ∨ ∃ k p, TxF tx p a k
  | 0, a, h, h2 => by omega
  | m + 1, a, h, h2 => by
    rcases cmd_or tx a with ⟨v, f, s, a', C⟩ | ⟨p, F⟩
    · have hl := C.le
      rcases Classical.em (a' = tx.length) with e | e
      · exact Or.inl ⟨[(v, f, s)], a', C, Or.inl ⟨rfl, e⟩⟩
      · rcases Classical.em (Sem tx a') with q | q
        · rcases txt_or tx m (a' + 1) (by omega) (by have := q.1; omega) with ⟨cs, T⟩ | ⟨k, p, F⟩
          · refine Or.inl ⟨(v, f, s) :: cs, a', C, Or.inr ⟨q, ?_, T⟩⟩
            rintro rfl
            exact T
          · exact Or.inr ⟨k + 1, p, v, f, s, a', C, q, F⟩
        · exact Or.inr ⟨0, a', Or.inr ⟨v, f, s, C, e, q⟩⟩
    · exact Or.inr ⟨0, p, Or.inl F⟩
theorem Txt.le {tx : List Int32} : ∀ (cs : CmL) (a : Nat), Txt tx a cs → a + 7 * cs.length ≤ tx.length + 1
  | [], _, h => absurd h id
  | c :: r, a, h => by
    obtain ⟨a', C, h⟩ := h
    have hl := C.le
    rcases h with ⟨rfl, e⟩ | ⟨q, -, T⟩
    · simp only [List.length_singleton]; omega
    · have := Txt.le r (a' + 1) T
      simp only [List.length_cons]; omega
theorem TxF.le {tx : List Int32} {p : Nat} : ∀ (k a : Nat), TxF tx p a k → a ≤ tx.length → a + 7 * k ≤ tx.length
  | 0, a, _, h => by omega
  | k + 1, a, h, _ => by
    obtain ⟨v, f, s, a', C, q, F⟩ := h
    have hl := C.le
    have := TxF.le k (a' + 1) F (by have := q.1; omega)
    omega
set_option maxRecDepth 100000 in
set_option maxHeartbeats 1000000 in
theorem isR_y {l : Launch} {G : Gl} (ok : Ok G) {h0 : Hp} {tx : List Int32} (hA : Asc tx) (h60 : tx.length ≤ 60) {b : Nat} (hbn : ∀ i, nmU i → Ad G i ≠ b) {C0 : CmL} : ∀ (cs : CmL) (ci a cn0 : Nat) (vf : Nat → Option Nat) (ff sf : Nat → Int32) (h : Hp), C0.drop ci = cs → (h (Ad G 9) = some (eSc G (nI (cn0)) (nI (a))) ∧ h (Ad G 11) = some (eR G 7 10 vf) ∧ h (Ad G 12) = some (eI G 10 ff) ∧ h (Ad G 13) = some (eI G 10 sf)) → SBT G h (Ad G 10) tx b → TcF G h0 h → (∀ q, q < ci → ∀ c, C0[q]? = some c → vf q = some (G.2.2.2 (3 + c.1)) ∧ ff q = c.2.1 ∧ sf q = c.2.2) → Txt tx a cs → ci + cs.length ≤ 10 → XX l G mX6_isRight (Rm 12 0 0) (KQ G (Rm 12 0 0) (fun w h' => w = some (.int 1) ∧ ∃ (vf : Nat → Option Nat) (ff sf : Nat → Int32) (cn at' : Nat), (h' (Ad G 9) = some (eSc G (nI (cn)) (nI (at'))) ∧ h' (Ad G 11) = some (eR G 7 10 vf) ∧ h' (Ad G 12) = some (eI G 10 ff) ∧ h' (Ad G 13) = some (eI G 10 sf)) ∧ TcF G h0 h' ∧ cn = C0.length ∧ (∀ q, q < C0.length → ∀ c, C0[q]? = some c → vf q = some (G.2.2.2 (3 + c.1)) ∧ ff q = c.2.1 ∧ sf q = c.2.2))) 0 0 7 [(1, .int (nI ci)), (0, .ref (Ad G 9))] [] h
  | [], ci, a, cn0, vf, ff, sf, h, _, _, _, _, _, Tx, _ => absurd Tx id
  | (v, f, s) :: r, ci, a, cn0, vf, ff, sf, h, hd, ⟨hs, h11, h12, h13⟩, T, F0, En, ⟨a', C, hr⟩, hci => by
    have hle := C.le
    have hci1 : ci + 1 + r.length ≤ 10 := by simp only [List.length_cons] at hci; omega
    have hget : C0[ci]? = some (v, f, s) := by have e := congrArg (fun z => z[0]?) hd; simpa using e
    have hd2 : C0.drop (ci + 1) = r := by rw [← List.tail_drop, hd]; rfl
    have h10 := T.at0.choose_spec
    refine x_iload_n 0 dX6_isRight_7 rfl rfl ?_
    refine x_bipush (v := 10) dX6_isRight_8 rfl ?_
    refine x_icmp_ge 65 dX6_isRight_10 (by decide) (fun z => by first | exact absurd z (nI_ge (b := 10) (by omega) (by omega)) | exact absurd (nI_ge (b := 10) (by omega) (by omega)) z) (fun _ => ?_)
    first | refine x_aload_n 1 dX6_isRight_13 rfl rfl ?_ | refine x_aload_nN 1 dX6_isRight_13 rfl rfl ?_
    refine x_iload_n 0 dX6_isRight_14 rfl rfl ?_
    refine x_callW (mc1 := 0) (ms1 := 0) (As := [.int _]) (ct_tcOK ok hs h11 h12 h13 T hA h60 (by omega) (by omega) C) vX6_54 rfl (x_recv hs rfl) rfl ⟨ble rfl, ble rfl⟩ (ble rfl) dX6_isRight_15 rfl ⟨by omega, by omega⟩ (fun w h1 q1 => ?_)
    obtain ⟨rfl, vf1, ff1, sf1, g9, g11, g12, g13, F1, pr, ex⟩ := q1
    have T1 := T.fr F1 (by rintro (e | e | e | e) <;> exact nA ok (by omega) (by omega) (by omega) e) (by rintro (e | e | e | e) <;> exact hbn _ (Or.inl (by omega)) e.symm)
    have F2 := F0.tr F1 (fun _ z => z) (fun _ z => z)
    refine x_if_ne 23 dX6_isRight_18 (by decide) (fun _ => ?_) (fun z => by first | exact absurd (show ¬ (1 : Int32) = 0 by decide) z | exact absurd z (show ¬ (1 : Int32) = 0 by decide))
    first | refine x_aload_n 1 dX6_isRight_23 rfl rfl ?_ | refine x_aload_nN 1 dX6_isRight_23 rfl rfl ?_
    refine x_iload_n 0 dX6_isRight_24 rfl rfl ?_
    refine x_iconst (v := 1) dX6_isRight_25 rfl ?_
    refine x_iadd dX6_isRight_26 ?_
    refine x_put fX6_31 rfl rfl rfl rfl dX6_isRight_27 (by with_reducible repeat first | assumption | exact hset_s | refine hget_n (by first | assumption | exact Ne.symm (by assumption) | exact nA ok (by omega) (by omega) (by omega)) ?_) (by exact ble rfl) (by first | assumption | exact aA (by assumption) (by omega)) ?_
    refine x_eqH (h' := hset h1 (Ad G 9) (eSc G (nI (ci + 1)) (nI a'))) (by rw [← nI_1]; rfl) ?_
    have T2 := T1.s9 ok (eSc G (nI (ci + 1)) (nI a'))
    have g9b := hset_s (h := h1) (a := Ad G 9) (e := eSc G (nI (ci + 1)) (nI a'))
    have En2 : ∀ q, q < ci + 1 → ∀ c, C0[q]? = some c → vf1 q = some (G.2.2.2 (3 + c.1)) ∧ ff1 q = c.2.1 ∧ sf1 q = c.2.2 := by
      intro q hq c hc
      rcases (show q < ci ∨ q = ci by omega) with z | rfl
      · obtain ⟨p1, p2, p3⟩ := pr q z
        rw [p1, p2, p3]
        exact En q z c hc
      · rw [hget] at hc; cases hc; exact ex
    rcases hr with ⟨rfl, e⟩ | ⟨qs, -, Tx⟩
    · first | refine x_aload_n 1 dX6_isRight_30 rfl rfl ?_ | refine x_aload_nN 1 dX6_isRight_30 rfl rfl ?_
      refine x_bipush (v := 59) dX6_isRight_31 rfl ?_
      refine x_cV1 (As := [.int _]) (ct_take_n ok g9b T2 hA h60 (by omega) (fun z => by have := z.1; omega)) vX6_58 rfl (x_recv (by with_reducible repeat first | assumption | exact hset_s | refine hget_n (by first | assumption | exact Ne.symm (by assumption) | exact nA ok (by omega) (by omega) (by omega)) ?_) rfl) rfl ⟨ble rfl, ble rfl⟩ (ble rfl) dX6_isRight_33 rfl ?_
      refine x_if_ne 59 dX6_isRight_36 (by decide) (fun z => by first | exact absurd z (fun z => z rfl) | exact absurd (fun z => z rfl) z) (fun _ => ?_)
      have h10b := T2.at0.choose_spec
      first | refine x_aload_n 1 dX6_isRight_39 rfl rfl ?_ | refine x_aload_nN 1 dX6_isRight_39 rfl rfl ?_
      refine x_get fX6_35 rfl dX6_isRight_40 (by with_reducible repeat first | assumption | exact hset_s | refine hget_n (by first | assumption | exact Ne.symm (by assumption) | exact nA ok (by omega) (by omega) (by omega)) ?_) (by rfl) ?_
      first | refine x_aload_n 1 dX6_isRight_43 rfl rfl ?_ | refine x_aload_nN 1 dX6_isRight_43 rfl rfl ?_
      refine x_get fX6_12 rfl dX6_isRight_44 (by with_reducible repeat first | assumption | exact hset_s | refine hget_n (by first | assumption | exact Ne.symm (by assumption) | exact nA ok (by omega) (by omega) (by omega)) ?_) (by rfl) ?_
      refine x_cV1 (As := []) (ct_J4_length_8abf5 (by with_reducible repeat first | assumption | exact hset_s | refine hget_n (by first | assumption | exact Ne.symm (by assumption) | exact nA ok (by omega) (by omega) (by omega)) ?_)) vX6_38 rfl (x_recv (by with_reducible repeat first | assumption | exact hset_s | refine hget_n (by first | assumption | exact Ne.symm (by assumption) | exact nA ok (by omega) (by omega) (by omega)) ?_) rfl) rfl ⟨ble rfl, ble rfl⟩ (ble rfl) dX6_isRight_47 rfl ?_
      refine x_icmp_ne 57 dX6_isRight_50 (by decide) (fun z => by first | exact absurd z (fun z => z (by rw [e])) | exact absurd (fun z => z (by rw [e])) z) (fun _ => ?_)
      refine x_iconst (v := 1) dX6_isRight_53 rfl ?_
      refine x_goto 58 dX6_isRight_54 (by decide) ?_
      refine x_zret rfl (by first | rfl | (split <;> rfl) | (unfold b2i; split <;> rfl)) dX6_isRight_58 ?_
      refine ⟨rfl, vf1, ff1, sf1, ci + 1, a', ⟨hset_s, hget_n (Ne.symm (nA ok (show 9 < 3000 by omega) (show 11 < 3000 by omega) (by omega))) g11, hget_n (Ne.symm (nA ok (show 9 < 3000 by omega) (show 12 < 3000 by omega) (by omega))) g12, hget_n (Ne.symm (nA ok (show 9 < 3000 by omega) (show 13 < 3000 by omega) (by omega))) g13⟩, F2.st (Or.inl rfl), ?_, ?_⟩
      · have := congrArg List.length hd2; rw [List.length_drop] at this; have hlt := (List.getElem?_eq_some_iff.mp hget).1; simp only [List.length_nil] at this; omega
      · intro q hq c hc; have hq2 : q < ci + 1 := by (have := congrArg List.length hd2; rw [List.length_drop] at this; simp only [List.length_nil] at this; omega)
        exact En2 q hq2 c hc
    · first | refine x_aload_n 1 dX6_isRight_30 rfl rfl ?_ | refine x_aload_nN 1 dX6_isRight_30 rfl rfl ?_
      refine x_bipush (v := 59) dX6_isRight_31 rfl ?_
      refine x_cV1 (As := [.int _]) (ct_take_y ok g9b T2 hA h60 (by omega) qs) vX6_58 rfl (x_recv (by with_reducible repeat first | assumption | exact hset_s | refine hget_n (by first | assumption | exact Ne.symm (by assumption) | exact nA ok (by omega) (by omega) (by omega)) ?_) rfl) rfl ⟨ble rfl, ble rfl⟩ (ble rfl) dX6_isRight_33 rfl ?_
      refine x_if_ne 59 dX6_isRight_36 (by decide) (fun _ => ?_) (fun z => by first | exact absurd (show ¬ (1 : Int32) = 0 by decide) z | exact absurd z (show ¬ (1 : Int32) = 0 by decide))
      refine x_iinc (L' := [(1, _), (0, _)]) (j := 0) (nI (_ + 1)) dX6_isRight_59 rfl (nI_1 _) (ble rfl) rfl ?_
      refine x_goto 7 dX6_isRight_62 (by decide) ?_
      exact isR_y ok hA h60 hbn r (ci + 1) (a' + 1) (ci + 1) vf1 ff1 sf1 _ hd2 ⟨by rw [hset_2]; exact hset_s, by rw [hset_2]; exact hget_n (Ne.symm (nA ok (show 9 < 3000 by omega) (show 11 < 3000 by omega) (by omega))) g11, by rw [hset_2]; exact hget_n (Ne.symm (nA ok (show 9 < 3000 by omega) (show 12 < 3000 by omega) (by omega))) g12, by rw [hset_2]; exact hget_n (Ne.symm (nA ok (show 9 < 3000 by omega) (show 13 < 3000 by omega) (by omega))) g13⟩ (T2.s9 ok _) ((F2.st (Or.inl rfl)).st (Or.inl rfl)) En2 Tx hci1
set_option maxRecDepth 100000 in
set_option maxHeartbeats 1000000 in
theorem isR_n {l : Launch} {G : Gl} (ok : Ok G) {h0 : Hp} {tx : List Int32} (hA : Asc tx) (h60 : tx.length ≤ 60) {b : Nat} (hbn : ∀ i, nmU i → Ad G i ≠ b) {p : Nat} : ∀ (k ci a cn0 : Nat) (vf : Nat → Option Nat) (ff sf : Nat → Int32) (h : Hp), (h (Ad G 9) = some (eSc G (nI (cn0)) (nI (a))) ∧ h (Ad G 11) = some (eR G 7 10 vf) ∧ h (Ad G 12) = some (eI G 10 ff) ∧ h (Ad G 13) = some (eI G 10 sf)) → SBT G h (Ad G 10) tx b → TcF G h0 h → TxF tx p a k → ci + k < 10 → a ≤ tx.length → XX l G mX6_isRight (Rm 12 0 0) (KQ G (Rm 12 0 0) (fun w h' => w = some (.int 0) ∧ ∃ (vf : Nat → Option Nat) (ff sf : Nat → Int32) (cn at' : Nat), (h' (Ad G 9) = some (eSc G (nI (cn)) (nI (at'))) ∧ h' (Ad G 11) = some (eR G 7 10 vf) ∧ h' (Ad G 12) = some (eI G 10 ff) ∧ h' (Ad G 13) = some (eI G 10 sf)) ∧ TcF G h0 h' ∧ at' = p)) 0 0 7 [(1, .int (nI ci)), (0, .ref (Ad G 9))] [] h
  | 0, ci, a, cn0, vf, ff, sf, h, ⟨hs, h11, h12, h13⟩, T, F0, hF, hci, hal => by
    have h10 := T.at0.choose_spec
    rcases hF with F | ⟨v, f, s, C, e, q⟩
    · refine x_iload_n 0 dX6_isRight_7 rfl rfl ?_
      refine x_bipush (v := 10) dX6_isRight_8 rfl ?_
      refine x_icmp_ge 65 dX6_isRight_10 (by decide) (fun z => by first | exact absurd z (nI_ge (b := 10) (by omega) (by omega)) | exact absurd (nI_ge (b := 10) (by omega) (by omega)) z) (fun _ => ?_)
      first | refine x_aload_n 1 dX6_isRight_13 rfl rfl ?_ | refine x_aload_nN 1 dX6_isRight_13 rfl rfl ?_
      refine x_iload_n 0 dX6_isRight_14 rfl rfl ?_
      refine x_callW (mc1 := 0) (ms1 := 0) (As := [.int _]) (ct_tcNo ok hs h11 h12 h13 T hA h60 (by omega) (by omega) F) vX6_54 rfl (x_recv hs rfl) rfl ⟨ble rfl, ble rfl⟩ (ble rfl) dX6_isRight_15 rfl ⟨by omega, by omega⟩ (fun w h1 q1 => ?_)
      obtain ⟨rfl, vf1, ff1, sf1, g9, g11, g12, g13, F1, pr, ex⟩ := q1
      have T1 := T.fr F1 (by rintro (e | e | e | e) <;> exact nA ok (by omega) (by omega) (by omega) e) (by rintro (e | e | e | e) <;> exact hbn _ (Or.inl (by omega)) e.symm)
      have F2 := F0.tr F1 (fun _ z => z) (fun _ z => z)
      refine x_if_ne 23 dX6_isRight_18 (by decide) (fun z => by first | exact absurd z (fun z => z rfl) | exact absurd (fun z => z rfl) z) (fun _ => ?_)
      refine x_iconst (v := 0) dX6_isRight_21 rfl ?_
      refine x_zret rfl (by first | rfl | (split <;> rfl) | (unfold b2i; split <;> rfl)) dX6_isRight_22 ?_
      exact ⟨rfl, vf1, ff1, sf1, cn0, p, ⟨g9, g11, g12, g13⟩, F2, rfl⟩
    · have hle := C.le
      refine x_iload_n 0 dX6_isRight_7 rfl rfl ?_
      refine x_bipush (v := 10) dX6_isRight_8 rfl ?_
      refine x_icmp_ge 65 dX6_isRight_10 (by decide) (fun z => by first | exact absurd z (nI_ge (b := 10) (by omega) (by omega)) | exact absurd (nI_ge (b := 10) (by omega) (by omega)) z) (fun _ => ?_)
      first | refine x_aload_n 1 dX6_isRight_13 rfl rfl ?_ | refine x_aload_nN 1 dX6_isRight_13 rfl rfl ?_
      refine x_iload_n 0 dX6_isRight_14 rfl rfl ?_
      refine x_callW (mc1 := 0) (ms1 := 0) (As := [.int _]) (ct_tcOK ok hs h11 h12 h13 T hA h60 (by omega) (by omega) C) vX6_54 rfl (x_recv hs rfl) rfl ⟨ble rfl, ble rfl⟩ (ble rfl) dX6_isRight_15 rfl ⟨by omega, by omega⟩ (fun w h1 q1 => ?_)
      obtain ⟨rfl, vf1, ff1, sf1, g9, g11, g12, g13, F1, pr, ex⟩ := q1
      have T1 := T.fr F1 (by rintro (e | e | e | e) <;> exact nA ok (by omega) (by omega) (by omega) e) (by rintro (e | e | e | e) <;> exact hbn _ (Or.inl (by omega)) e.symm)
      have F2 := F0.tr F1 (fun _ z => z) (fun _ z => z)
      refine x_if_ne 23 dX6_isRight_18 (by decide) (fun _ => ?_) (fun z => by first | exact absurd (show ¬ (1 : Int32) = 0 by decide) z | exact absurd z (show ¬ (1 : Int32) = 0 by decide))
      first | refine x_aload_n 1 dX6_isRight_23 rfl rfl ?_ | refine x_aload_nN 1 dX6_isRight_23 rfl rfl ?_
      refine x_iload_n 0 dX6_isRight_24 rfl rfl ?_
      refine x_iconst (v := 1) dX6_isRight_25 rfl ?_
      refine x_iadd dX6_isRight_26 ?_
      refine x_put fX6_31 rfl rfl rfl rfl dX6_isRight_27 (by with_reducible repeat first | assumption | exact hset_s | refine hget_n (by first | assumption | exact Ne.symm (by assumption) | exact nA ok (by omega) (by omega) (by omega)) ?_) (by exact ble rfl) (by first | assumption | exact aA (by assumption) (by omega)) ?_
      refine x_eqH (h' := hset h1 (Ad G 9) (eSc G (nI (ci + 1)) (nI p))) (by rw [← nI_1]; rfl) ?_
      have T2 := T1.s9 ok (eSc G (nI (ci + 1)) (nI p))
      have g9b := hset_s (h := h1) (a := Ad G 9) (e := eSc G (nI (ci + 1)) (nI p))
      first | refine x_aload_n 1 dX6_isRight_30 rfl rfl ?_ | refine x_aload_nN 1 dX6_isRight_30 rfl rfl ?_
      refine x_bipush (v := 59) dX6_isRight_31 rfl ?_
      refine x_cV1 (As := [.int _]) (ct_take_n ok g9b T2 hA h60 (by omega) q) vX6_58 rfl (x_recv (by with_reducible repeat first | assumption | exact hset_s | refine hget_n (by first | assumption | exact Ne.symm (by assumption) | exact nA ok (by omega) (by omega) (by omega)) ?_) rfl) rfl ⟨ble rfl, ble rfl⟩ (ble rfl) dX6_isRight_33 rfl ?_
      refine x_if_ne 59 dX6_isRight_36 (by decide) (fun z => by first | exact absurd z (fun z => z rfl) | exact absurd (fun z => z rfl) z) (fun _ => ?_)
      have h10b := T2.at0.choose_spec
      first | refine x_aload_n 1 dX6_isRight_39 rfl rfl ?_ | refine x_aload_nN 1 dX6_isRight_39 rfl rfl ?_
      refine x_get fX6_35 rfl dX6_isRight_40 (by with_reducible repeat first | assumption | exact hset_s | refine hget_n (by first | assumption | exact Ne.symm (by assumption) | exact nA ok (by omega) (by omega) (by omega)) ?_) (by rfl) ?_
      first | refine x_aload_n 1 dX6_isRight_43 rfl rfl ?_ | refine x_aload_nN 1 dX6_isRight_43 rfl rfl ?_
      refine x_get fX6_12 rfl dX6_isRight_44 (by with_reducible repeat first | assumption | exact hset_s | refine hget_n (by first | assumption | exact Ne.symm (by assumption) | exact nA ok (by omega) (by omega) (by omega)) ?_) (by rfl) ?_
      refine x_cV1 (As := []) (ct_J4_length_8abf5 (by with_reducible repeat first | assumption | exact hset_s | refine hget_n (by first | assumption | exact Ne.symm (by assumption) | exact nA ok (by omega) (by omega) (by omega)) ?_)) vX6_38 rfl (x_recv (by with_reducible repeat first | assumption | exact hset_s | refine hget_n (by first | assumption | exact Ne.symm (by assumption) | exact nA ok (by omega) (by omega) (by omega)) ?_) rfl) rfl ⟨ble rfl, ble rfl⟩ (ble rfl) dX6_isRight_47 rfl ?_
      refine x_icmp_ne 57 dX6_isRight_50 (by decide) (fun _ => ?_) (fun z => by first | exact absurd (fun z => e ((nI_eq (by omega) (by omega)).mp z)) z | exact absurd z (fun z => e ((nI_eq (by omega) (by omega)).mp z)))
      refine x_iconst (v := 0) dX6_isRight_57 rfl ?_
      refine x_zret rfl (by first | rfl | (split <;> rfl) | (unfold b2i; split <;> rfl)) dX6_isRight_58 ?_
      exact ⟨rfl, vf1, ff1, sf1, ci + 1, p, ⟨hset_s, hget_n (Ne.symm (nA ok (show 9 < 3000 by omega) (show 11 < 3000 by omega) (by omega))) g11, hget_n (Ne.symm (nA ok (show 9 < 3000 by omega) (show 12 < 3000 by omega) (by omega))) g12, hget_n (Ne.symm (nA ok (show 9 < 3000 by omega) (show 13 < 3000 by omega) (by omega))) g13⟩, F2.st (Or.inl rfl), rfl⟩
  | k + 1, ci, a, cn0, vf, ff, sf, h, ⟨hs, h11, h12, h13⟩, T, F0, ⟨v, f, s, a', C, qs, hF⟩, hci, hal => by
    have h10 := T.at0.choose_spec
    have hle := C.le
    refine x_iload_n 0 dX6_isRight_7 rfl rfl ?_
    refine x_bipush (v := 10) dX6_isRight_8 rfl ?_
    refine x_icmp_ge 65 dX6_isRight_10 (by decide) (fun z => by first | exact absurd z (nI_ge (b := 10) (by omega) (by omega)) | exact absurd (nI_ge (b := 10) (by omega) (by omega)) z) (fun _ => ?_)
    first | refine x_aload_n 1 dX6_isRight_13 rfl rfl ?_ | refine x_aload_nN 1 dX6_isRight_13 rfl rfl ?_
    refine x_iload_n 0 dX6_isRight_14 rfl rfl ?_
    refine x_callW (mc1 := 0) (ms1 := 0) (As := [.int _]) (ct_tcOK ok hs h11 h12 h13 T hA h60 (by omega) (by omega) C) vX6_54 rfl (x_recv hs rfl) rfl ⟨ble rfl, ble rfl⟩ (ble rfl) dX6_isRight_15 rfl ⟨by omega, by omega⟩ (fun w h1 q1 => ?_)
    obtain ⟨rfl, vf1, ff1, sf1, g9, g11, g12, g13, F1, pr, ex⟩ := q1
    have T1 := T.fr F1 (by rintro (e | e | e | e) <;> exact nA ok (by omega) (by omega) (by omega) e) (by rintro (e | e | e | e) <;> exact hbn _ (Or.inl (by omega)) e.symm)
    have F2 := F0.tr F1 (fun _ z => z) (fun _ z => z)
    refine x_if_ne 23 dX6_isRight_18 (by decide) (fun _ => ?_) (fun z => by first | exact absurd (show ¬ (1 : Int32) = 0 by decide) z | exact absurd z (show ¬ (1 : Int32) = 0 by decide))
    first | refine x_aload_n 1 dX6_isRight_23 rfl rfl ?_ | refine x_aload_nN 1 dX6_isRight_23 rfl rfl ?_
    refine x_iload_n 0 dX6_isRight_24 rfl rfl ?_
    refine x_iconst (v := 1) dX6_isRight_25 rfl ?_
    refine x_iadd dX6_isRight_26 ?_
    refine x_put fX6_31 rfl rfl rfl rfl dX6_isRight_27 (by with_reducible repeat first | assumption | exact hset_s | refine hget_n (by first | assumption | exact Ne.symm (by assumption) | exact nA ok (by omega) (by omega) (by omega)) ?_) (by exact ble rfl) (by first | assumption | exact aA (by assumption) (by omega)) ?_
    refine x_eqH (h' := hset h1 (Ad G 9) (eSc G (nI (ci + 1)) (nI a'))) (by rw [← nI_1]; rfl) ?_
    have T2 := T1.s9 ok (eSc G (nI (ci + 1)) (nI a'))
    have g9b := hset_s (h := h1) (a := Ad G 9) (e := eSc G (nI (ci + 1)) (nI a'))
    first | refine x_aload_n 1 dX6_isRight_30 rfl rfl ?_ | refine x_aload_nN 1 dX6_isRight_30 rfl rfl ?_
    refine x_bipush (v := 59) dX6_isRight_31 rfl ?_
    refine x_cV1 (As := [.int _]) (ct_take_y ok g9b T2 hA h60 (by omega) qs) vX6_58 rfl (x_recv (by with_reducible repeat first | assumption | exact hset_s | refine hget_n (by first | assumption | exact Ne.symm (by assumption) | exact nA ok (by omega) (by omega) (by omega)) ?_) rfl) rfl ⟨ble rfl, ble rfl⟩ (ble rfl) dX6_isRight_33 rfl ?_
    refine x_if_ne 59 dX6_isRight_36 (by decide) (fun _ => ?_) (fun z => by first | exact absurd (show ¬ (1 : Int32) = 0 by decide) z | exact absurd z (show ¬ (1 : Int32) = 0 by decide))
    refine x_iinc (L' := [(1, _), (0, _)]) (j := 0) (nI (_ + 1)) dX6_isRight_59 rfl (nI_1 _) (ble rfl) rfl ?_
    refine x_goto 7 dX6_isRight_62 (by decide) ?_
    exact isR_n ok hA h60 hbn k (ci + 1) (a' + 1) (ci + 1) vf1 ff1 sf1 _ ⟨by rw [hset_2]; exact hset_s, by rw [hset_2]; exact hget_n (Ne.symm (nA ok (show 9 < 3000 by omega) (show 11 < 3000 by omega) (by omega))) g11, by rw [hset_2]; exact hget_n (Ne.symm (nA ok (show 9 < 3000 by omega) (show 12 < 3000 by omega) (by omega))) g12, by rw [hset_2]; exact hget_n (Ne.symm (nA ok (show 9 < 3000 by omega) (show 13 < 3000 by omega) (by omega))) g13⟩ (T2.s9 ok _) ((F2.st (Or.inl rfl)).st (Or.inl rfl)) hF (by omega) (by have := qs.1; omega)
