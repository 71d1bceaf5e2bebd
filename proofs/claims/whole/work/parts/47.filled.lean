section CALC47
variable {l : Launch} {G : Gl} {M : MM} {rm : Room} {K : List Frame → Array Value → State → State → Prop} {Q : Option Value → Hp → Prop} {mc ms pc : Nat} {L L' : List (Nat × Value)} {st : List Value} {h : Hp} {e : va_E} {N : Nat → Int32} {c : Nat → Int32}
theorem x_mzld {i : Nat} (ok : Ok G) (hd : decode M.2.1 pc = .ok (.baload, 1)) (hi : i < 256) (kk : XX l G M rm K mc ms (pc + 1) L (.int (c i) :: st) (mH G (hset h (Ad G 29) (eZ G 256 c)) e N)) : XX l G M rm K mc ms pc L (.int (nI i) :: .ref (Ad G 29) :: st) (mH G (hset h (Ad G 29) (eZ G 256 c)) e N) :=
  x_zald hd (mH_o (nA ok (by omega) (by omega) (by omega)) (nA ok (by omega) (by omega) (by omega)) hset_s) (vp_in_nI hi (by decide)) (by rw [nI_clamp (by omega)]; exact kk)
theorem x_mzst {x y : Int32} {i : Nat} (ok : Ok G) (hx : x = nI i) (hy : narrow .boolean (.int y) = .int y) (hd : decode M.2.1 pc = .ok (.bastore, 1)) (hi : i < 256) (kk : XX l G M rm K mc ms (pc + 1) L st (mH G (hset h (Ad G 29) (eZ G 256 (upd c i y))) e N)) : XX l G M rm K mc ms pc L (.int y :: .int x :: .ref (Ad G 29) :: st) (mH G (hset h (Ad G 29) (eZ G 256 c)) e N) := by
  subst hx
  refine x_zast hy hd (mH_o (nA ok (by omega) (by omega) (by omega)) (nA ok (by omega) (by omega) (by omega)) hset_s) (vp_in_nI hi (by decide)) (aA ok (by omega)) ?_
  rw [mH_c (nA ok (by omega) (by omega) (by omega)) (nA ok (by omega) (by omega) (by omega)), hset_2, nI_clamp (by omega)]
  exact kk
end CALC47
def dsM (N : Nat → Int32) (p s q : Nat) : Int32 := if (nI s >>> (nI q &&& 31)) &&& 1 = 0 ∧ N (191 + 5 * q) = -4 ∧ ¬ goodN N p q = 0 then 1 else 0
def orS (N : Nat → Int32) (p s q : Nat) : Nat := if dsM N p s q = 0 then s else s ||| 2 ^ q
def vS (N : Nat → Int32) (p s q : Nat) : Int32 := if dsM N p s q = 0 then 0 else (1 : Int32) <<< (nI q &&& 31)
theorem or_t : ∀ s, s < 256 → ∀ q, q < 8 → nI s ||| ((1 : Int32) <<< (nI q &&& 31)) = nI (s ||| 2 ^ q) ∧ (s ||| 2 ^ q) < 256 := by decide +kernel
theorem or_e {N : Nat → Int32} {p : Nat} (s : Nat) (hs : s < 256) (q : Nat) (hq : q < 8) : nI s ||| vS N p s q = nI (orS N p s q) := by
  unfold vS orS
  split
  · rw [Int32.or_zero]
  · exact (or_t s hs q hq).1
theorem or_lt {N : Nat → Int32} {p s q : Nat} (hs : s < 256) (hq : q < 8) : orS N p s q < 256 := by
  unfold orS
  split
  · exact hs
  · exact (or_t s hs q hq).2
def inF (N : Nat → Int32) (p s : Nat) (c : Nat → Int32) : Nat → Nat → Int32
  | 0 => c
  | q + 1 => upd (inF N p s c q) (orS N p s q) 1
theorem inF_s (N : Nat → Int32) (p s : Nat) (c : Nat → Int32) (q : Nat) : upd (inF N p s c q) (orS N p s q) 1 = inF N p s c (q + 1) := rfl
theorem inF_n {N : Nat → Int32} {p s : Nat} {c : Nat → Int32} (h : ¬ c s = 0) : ∀ q, ¬ inF N p s c q s = 0
  | 0 => h
  | q + 1 => by
    rw [← inF_s, upd]
    split
    · decide
    · exact inF_n h q
def stF (N : Nat → Int32) (no p s : Nat) (c : Nat → Int32) : Nat → Int32 := if c s = 0 then c else inF N p s c no
def seF (N : Nat → Int32) (no p : Nat) (c : Nat → Int32) : Nat → Nat → Int32
  | 0 => c
  | k + 1 => stF N no p (255 - k) (seF N no p c k)
def ziF (c : Nat → Int32) (n : Nat) : Nat → Int32 := fun q => if q < n then (if q = 0 then 1 else 0) else c q
theorem ziF_0 (c : Nat → Int32) : ziF c 0 = c := by funext q; unfold ziF; rw [if_neg (Nat.not_lt_zero q)]
theorem ziF_s (c : Nat → Int32) (n : Nat) {v : Int32} (hv : v = if n = 0 then 1 else 0) : upd (ziF c n) n v = ziF c (n + 1) := by
  funext q
  subst hv
  unfold upd ziF
  by_cases h : q = n
  · subst h; rw [if_pos rfl, if_pos (show q < q + 1 from Nat.lt_succ_self q)]
  · rw [if_neg h]
    by_cases h2 : q < n
    · rw [if_pos h2, if_pos (show q < n + 1 by omega)]
    · rw [if_neg h2, if_neg (show ¬ q < n + 1 by omega)]
def poF (N : Nat → Int32) (no : Nat) (c : Nat → Int32) : Nat → Nat → Int32
  | 0 => ziF c 256
  | p + 1 => seF N no p (poF N no c p) 256
def btM (s : Nat) : Int32 := sm (fun k => (nI s >>> (nI k &&& 31)) &&& 1) 8
def mfM (c : Nat → Int32) : Nat → Int32
  | 0 => 0
  | s + 1 => if c s = 0 then mfM c s else mx (mfM c s) (btM s)
theorem mfM_s (c : Nat → Int32) (s : Nat) : mfM c (s + 1) = if c s = 0 then mfM c s else mx (mfM c s) (btM s) := rfl
def dI (i : Nat) : Int32 := nI 255 - nI i
theorem dI_n {i : Nat} (h : i < 256) : dI i = nI (255 - i) := by unfold dI; rw [nI_sub' (by omega)]
theorem dI_s (i : Nat) : dI i + -1 = dI (i + 1) := by
  unfold dI
  rw [← nI_1 i, Int32.sub_eq_add_neg, Int32.sub_eq_add_neg, Int32.neg_add, Int32.add_assoc, Int32.sub_eq_add_neg]
set_option maxRecDepth 100000 in
set_option maxHeartbeats 1000000 in
theorem ct_X12_bits {l : Launch} {G : Gl} {h : Hp} {s : Nat} : CtR l G mX12_bits 1 [.int (nI s)] h (some (.int (btM s))) h := by
  refine Ct.of (L := [(0, _)]) (by decide) (ble rfl) rfl ?_
  refine x_iconst (v := 0) dX12_bits_0 rfl ?_
  refine x_istore_n (L' := [(1, _), (0, _)]) dX12_bits_1 rfl (ble rfl) rfl ?_
  refine x_iconst (v := 0) dX12_bits_2 rfl ?_
  refine x_istore_n (L' := [(2, _), (1, _), (0, _)]) dX12_bits_3 rfl (ble rfl) rfl ?_
  refine x_locs (L' := [(2, _), (1, _), (0, _)]) [0, 1, 2] rfl ?_
  refine dn (P := fun i => XX l G mX12_bits (Rm 1 0 0) (KQ G (Rm 1 0 0) (fun w h' => w = some (.int (btM s)) ∧ h' = h)) 0 0 4 [(2, .int (nI i)), (1, .int (sm (fun k => (nI s >>> (nI k &&& 31)) &&& 1) i)), (0, .int (nI s))] [] h) (n := 8) ?_ (fun i hi ihi => ?_)
  · refine x_iload_n 0 dX12_bits_4 rfl rfl ?_
    refine x_bipush (v := 8) dX12_bits_5 rfl ?_
    refine x_icmp_ge 24 dX12_bits_7 (by decide) (fun _ => ?_) (fun z => by first | exact absurd (Int32.le_refl _) z | exact absurd z (Int32.le_refl _))
    refine x_iload_n 1 dX12_bits_24 rfl rfl ?_
    refine x_iret rfl dX12_bits_25 ?_
    exact ⟨rfl, rfl⟩
  · refine x_iload_n 0 dX12_bits_4 rfl rfl ?_
    refine x_bipush (v := 8) dX12_bits_5 rfl ?_
    refine x_icmp_ge 24 dX12_bits_7 (by decide) (fun z => by first | exact absurd z (show ¬ nI 8 ≤ nI i from nI_ge hi (by omega)) | exact absurd (show ¬ nI 8 ≤ nI i from nI_ge hi (by omega)) z) (fun _ => ?_)
    refine x_iload_n 1 dX12_bits_10 rfl rfl ?_
    refine x_iload_n 2 dX12_bits_11 rfl rfl ?_
    refine x_iload_n 0 dX12_bits_12 rfl rfl ?_
    refine x_ishr dX12_bits_13 ?_
    refine x_iconst (v := 1) dX12_bits_14 rfl ?_
    refine x_iand dX12_bits_15 ?_
    refine x_iadd dX12_bits_16 ?_
    refine x_istore_n (L' := [(1, _), (2, _), (0, _)]) dX12_bits_17 rfl (ble rfl) rfl ?_
    refine x_iinc (L' := [(2, _), (1, _), (0, _)]) (j := 1) (nI (_ + 1)) dX12_bits_18 rfl (nI_1 _) (ble rfl) rfl ?_
    refine x_goto 4 dX12_bits_21 (by decide) ?_
    refine x_locs (L' := [(2, _), (1, _), (0, _)]) [0, 1, 2] rfl ?_
    exact ihi
set_option maxRecDepth 100000 in
set_option maxHeartbeats 1000000 in
theorem ct_filledM {l : Launch} {G : Gl} {h : Hp} {sv rem typ err lin why wha beh its siz att wro tol : Int32} {N : Nat → Int32} (ok : Ok G) {ns np no : Nat} (A : RowA N ns np no) {cn : Nat → Int32} : CtR l G mX12_filled 9 [.ref (Ad G 20)] (mH G (hset h (Ad G 29) (eZ G 256 cn)) (eMd G sv rem typ err lin why wha beh its siz att wro tol) N) (some (.int (mfM (poF N no cn np) 256))) (mH G (hset h (Ad G 29) (eZ G 256 (poF N no cn np))) (eMd G sv rem typ err lin why wha beh its siz att wro tol) N) := by
  obtain ⟨a2, a3, a4, b2, b3, b4, AP, AO⟩ := A
  refine Ct.of (L := [(0, _)]) (by decide) (ble rfl) rfl ?_
  refine x_iconst (v := 0) dX12_filled_0 rfl ?_
  refine x_istore_n (L' := [(1, _), (0, _)]) dX12_filled_1 rfl (ble rfl) rfl ?_
  refine x_eqH (h' := (mH G (hset h (Ad G 29) (eZ G 256 (ziF cn 0))) (eMd G sv rem typ err lin why wha beh its siz att wro tol) N)) (by rw [ziF_0]) ?_
  refine x_locs (L' := [(1, _), (0, _)]) [0, 1] rfl ?_
  refine dn (P := fun i => XX l G mX12_filled (Rm 9 0 0) (KQ G (Rm 9 0 0) (fun w h' => w = some (.int (mfM (poF N no cn np) 256)) ∧ h' = (mH G (hset h (Ad G 29) (eZ G 256 (poF N no cn np))) (eMd G sv rem typ err lin why wha beh its siz att wro tol) N))) 0 0 2 [(1, .int (nI i)), (0, .ref (Ad G 20))] [] (mH G (hset h (Ad G 29) (eZ G 256 (ziF cn i))) (eMd G sv rem typ err lin why wha beh its siz att wro tol) N)) (n := 256) ?_ (fun i hi ihi => ?_)
  · refine x_iload_n 0 dX12_filled_2 rfl rfl ?_
    refine x_sipush (v := 256) dX12_filled_3 rfl ?_
    refine x_icmp_ge 30 dX12_filled_6 (by decide) (fun _ => ?_) (fun z => by first | exact absurd (Int32.le_refl _) z | exact absurd z (Int32.le_refl _))
    refine x_iconst (v := 0) dX12_filled_30 rfl ?_
    refine x_istore_n (L' := [(1, _), (0, _)]) dX12_filled_31 rfl (ble rfl) rfl ?_
    refine x_locs (L' := [(1, _), (0, _)]) [0, 1] rfl ?_
    refine dn (P := fun p => XX l G mX12_filled (Rm 9 0 0) (KQ G (Rm 9 0 0) (fun w h' => w = some (.int (mfM (poF N no cn np) 256)) ∧ h' = (mH G (hset h (Ad G 29) (eZ G 256 (poF N no cn np))) (eMd G sv rem typ err lin why wha beh its siz att wro tol) N))) 0 0 32 [(1, .int (nI p)), (0, .ref (Ad G 20))] [] (mH G (hset h (Ad G 29) (eZ G 256 (poF N no cn p))) (eMd G sv rem typ err lin why wha beh its siz att wro tol) N)) (n := np) ?_ (fun p hp ihp => ?_)
    · refine x_iload_n 0 dX12_filled_32 rfl rfl ?_
      first | refine x_aload_n 1 dX12_filled_33 rfl rfl ?_ | refine x_aload_nN 1 dX12_filled_33 rfl rfl ?_
      refine x_get fX12_9 rfl dX12_filled_34 (by with_reducible repeat first | assumption | exact mH_0 ok | exact mH_1 | exact hset_s | refine mH_o (by first | assumption | exact nA ok (by omega) (by omega) (by omega)) (by first | assumption | exact nA ok (by omega) (by omega) (by omega)) ?_ | refine hget_n (by first | assumption | exact Ne.symm (by assumption) | exact nA ok (by omega) (by omega) (by omega)) ?_) (by rfl) ?_
      refine x_iconst (v := 3) dX12_filled_37 rfl ?_
      refine x_mald (i := 3) (by first | exact Eq.refl (nI _) | exact ix_p _ _ | exact ix_o _ _ | exact ix_s _ | exact ix_s1 _ _ | (rw [ix_s]; exact nI_add _ _) | exact nI_add _ 1 | exact nI_add _ 2 | exact nI_add _ 3 | exact nI_add _ 4 | (rw [ix_o0]; exact nI_add _ 3) | (rw [ix_o0]; exact nI_add _ 4) | (rw [ix_o0]; exact nI_add _ _) | (rw [ix_o0]; exact (nI_add _ 3).trans (congrArg nI (by omega))) | (rw [ix_o0]; exact (nI_add _ 4).trans (congrArg nI (by omega))) | exact (nI_add _ 1).trans (congrArg nI (by omega)) | exact (nI_add _ 2).trans (congrArg nI (by omega)) | exact (nI_add _ 3).trans (congrArg nI (by omega)) | exact (nI_add _ 4).trans (congrArg nI (by omega))) dX12_filled_38 (by omega) rfl ?_
      refine x_icmp_ge 144 dX12_filled_39 (by decide) (fun _ => ?_) (fun z => by first | exact absurd (by rw [a3]; exact Int32.le_refl _) z | exact absurd z (by rw [a3]; exact Int32.le_refl _))
      refine x_iconst (v := 0) dX12_filled_144 rfl ?_
      refine x_istore_n (L' := [(1, _), (0, _)]) dX12_filled_145 rfl (ble rfl) rfl ?_
      refine x_iconst (v := 0) dX12_filled_146 rfl ?_
      refine x_istore_n (L' := [(2, _), (1, _), (0, _)]) dX12_filled_147 rfl (ble rfl) rfl ?_
      refine x_locs (L' := [(2, _), (1, _), (0, _)]) [0, 1, 2] rfl ?_
      refine dn (P := fun i => XX l G mX12_filled (Rm 9 0 0) (KQ G (Rm 9 0 0) (fun w h' => w = some (.int (mfM (poF N no cn np) 256)) ∧ h' = (mH G (hset h (Ad G 29) (eZ G 256 (poF N no cn np))) (eMd G sv rem typ err lin why wha beh its siz att wro tol) N))) 0 0 148 [(2, .int (nI i)), (1, .int (mfM (poF N no cn np) i)), (0, .ref (Ad G 20))] [] (mH G (hset h (Ad G 29) (eZ G 256 (poF N no cn np))) (eMd G sv rem typ err lin why wha beh its siz att wro tol) N)) (n := 256) ?_ (fun i hi ihi => ?_)
      · refine x_iload_n 0 dX12_filled_148 rfl rfl ?_
        refine x_sipush (v := 256) dX12_filled_149 rfl ?_
        refine x_icmp_ge 183 dX12_filled_152 (by decide) (fun _ => ?_) (fun z => by first | exact absurd (Int32.le_refl _) z | exact absurd z (Int32.le_refl _))
        refine x_iload_n 1 dX12_filled_183 rfl rfl ?_
        refine x_iret rfl dX12_filled_184 ?_
        exact ⟨rfl, rfl⟩
      · refine x_iload_n 0 dX12_filled_148 rfl rfl ?_
        refine x_sipush (v := 256) dX12_filled_149 rfl ?_
        refine x_icmp_ge 183 dX12_filled_152 (by decide) (fun z => by first | exact absurd z (show ¬ nI 256 ≤ nI i from nI_ge hi (by omega)) | exact absurd (show ¬ nI 256 ≤ nI i from nI_ge hi (by omega)) z) (fun _ => ?_)
        first | refine x_aload_n 2 dX12_filled_155 rfl rfl ?_ | refine x_aload_nN 2 dX12_filled_155 rfl rfl ?_
        refine x_get fX12_38 rfl dX12_filled_156 (by with_reducible repeat first | assumption | exact mH_0 ok | exact mH_1 | exact hset_s | refine mH_o (by first | assumption | exact nA ok (by omega) (by omega) (by omega)) (by first | assumption | exact nA ok (by omega) (by omega) (by omega)) ?_ | refine hget_n (by first | assumption | exact Ne.symm (by assumption) | exact nA ok (by omega) (by omega) (by omega)) ?_) (by rfl) ?_
        refine x_iload_n 0 dX12_filled_159 rfl rfl ?_
        refine x_mzld ok dX12_filled_160 (by omega) ?_
        refine x_if_eq 175 dX12_filled_161 (by decide) (fun c161 => ?_) (fun c161 => ?_)
        · refine x_iload_n 1 dX12_filled_175 rfl rfl ?_
          refine x_istore_n (L' := [(1, _), (2, _), (0, _)]) dX12_filled_176 rfl (ble rfl) rfl ?_
          refine x_iinc (L' := [(2, _), (1, _), (0, _)]) (j := 1) (nI (_ + 1)) dX12_filled_177 rfl (nI_1 _) (ble rfl) rfl ?_
          refine x_goto 148 dX12_filled_180 (by decide) ?_
          refine x_locs (L' := [(2, _), (1, _), (0, _)]) [0, 1, 2] rfl ?_
          refine x_eqL ?_ ihi
          rw [mfM_s]
          first | (rw [if_pos c161]; done) | (rw [if_neg c161] <;> rfl)
        · refine x_iload_n 1 dX12_filled_164 rfl rfl ?_
          refine x_iload_n 0 dX12_filled_165 rfl rfl ?_
          refine x_cS1 (As := [.int _]) ct_X12_bits vX12_187 rfl rfl ⟨ble rfl, ble rfl⟩ (ble rfl) dX12_filled_166 rfl ?_
          refine x_mmax rfl wX12_108 wMmax2 wMath3 wMmax4 (ble rfl) (ble rfl) dX12_filled_169 ?_
          refine x_goto 176 dX12_filled_172 (by decide) ?_
          refine x_istore_n (L' := [(1, _), (2, _), (0, _)]) dX12_filled_176 rfl (ble rfl) rfl ?_
          refine x_iinc (L' := [(2, _), (1, _), (0, _)]) (j := 1) (nI (_ + 1)) dX12_filled_177 rfl (nI_1 _) (ble rfl) rfl ?_
          refine x_goto 148 dX12_filled_180 (by decide) ?_
          refine x_locs (L' := [(2, _), (1, _), (0, _)]) [0, 1, 2] rfl ?_
          refine x_eqL ?_ ihi
          rw [mfM_s]
          first | (rw [if_pos c161]; done) | (rw [if_neg c161] <;> rfl)
    · refine x_iload_n 0 dX12_filled_32 rfl rfl ?_
      first | refine x_aload_n 1 dX12_filled_33 rfl rfl ?_ | refine x_aload_nN 1 dX12_filled_33 rfl rfl ?_
      refine x_get fX12_9 rfl dX12_filled_34 (by with_reducible repeat first | assumption | exact mH_0 ok | exact mH_1 | exact hset_s | refine mH_o (by first | assumption | exact nA ok (by omega) (by omega) (by omega)) (by first | assumption | exact nA ok (by omega) (by omega) (by omega)) ?_ | refine hget_n (by first | assumption | exact Ne.symm (by assumption) | exact nA ok (by omega) (by omega) (by omega)) ?_) (by rfl) ?_
      refine x_iconst (v := 3) dX12_filled_37 rfl ?_
      refine x_mald (i := 3) (by first | exact Eq.refl (nI _) | exact ix_p _ _ | exact ix_o _ _ | exact ix_s _ | exact ix_s1 _ _ | (rw [ix_s]; exact nI_add _ _) | exact nI_add _ 1 | exact nI_add _ 2 | exact nI_add _ 3 | exact nI_add _ 4 | (rw [ix_o0]; exact nI_add _ 3) | (rw [ix_o0]; exact nI_add _ 4) | (rw [ix_o0]; exact nI_add _ _) | (rw [ix_o0]; exact (nI_add _ 3).trans (congrArg nI (by omega))) | (rw [ix_o0]; exact (nI_add _ 4).trans (congrArg nI (by omega))) | exact (nI_add _ 1).trans (congrArg nI (by omega)) | exact (nI_add _ 2).trans (congrArg nI (by omega)) | exact (nI_add _ 3).trans (congrArg nI (by omega)) | exact (nI_add _ 4).trans (congrArg nI (by omega))) dX12_filled_38 (by omega) rfl ?_
      refine x_icmp_ge 144 dX12_filled_39 (by decide) (fun z => by first | exact absurd z (by rw [a3]; exact nI_ge hp (by omega)) | exact absurd (by rw [a3]; exact nI_ge hp (by omega)) z) (fun _ => ?_)
      refine x_sipush (v := 255) dX12_filled_42 rfl ?_
      refine x_istore_n (L' := [(2, _), (1, _), (0, _)]) dX12_filled_45 rfl (ble rfl) rfl ?_
      refine x_locs (L' := [(2, _), (0, _), (1, _)]) [0, 2, 1] rfl ?_
      refine dn (P := fun i => XX l G mX12_filled (Rm 9 0 0) (KQ G (Rm 9 0 0) (fun w h' => w = some (.int (mfM (poF N no cn np) 256)) ∧ h' = (mH G (hset h (Ad G 29) (eZ G 256 (poF N no cn np))) (eMd G sv rem typ err lin why wha beh its siz att wro tol) N))) 0 0 46 [(2, .int (dI i)), (0, .ref (Ad G 20)), (1, .int (nI p))] [] (mH G (hset h (Ad G 29) (eZ G 256 (seF N no p (poF N no cn p) i))) (eMd G sv rem typ err lin why wha beh its siz att wro tol) N)) (n := 256) ?_ (fun i hi ihi => ?_)
      · refine x_iload_n 0 dX12_filled_46 rfl rfl ?_
        refine x_if_lt 138 dX12_filled_47 (by decide) (fun _ => ?_) (fun z => by first | exact absurd (by decide) z | exact absurd z (by decide))
        refine x_iinc (L' := [(1, _), (2, _), (0, _)]) (j := 2) (nI (_ + 1)) dX12_filled_138 rfl (nI_1 _) (ble rfl) rfl ?_
        refine x_goto 32 dX12_filled_141 (by decide) ?_
        refine x_locs (L' := [(1, _), (0, _)]) [0, 2] rfl ?_
        exact ihp
      · refine x_eqL (L' := [(2, .int (nI (255 - i))), (0, .ref (Ad G 20)), (1, .int (nI p))]) (by rw [dI_n hi]) ?_
        have J : (∀ e3 : Int32, XX l G mX12_filled (Rm 9 0 0) (KQ G (Rm 9 0 0) (fun w h' => w = some (.int (mfM (poF N no cn np) 256)) ∧ h' = (mH G (hset h (Ad G 29) (eZ G 256 (poF N no cn np))) (eMd G sv rem typ err lin why wha beh its siz att wro tol) N))) 0 0 132 [(3, .int e3), (2, .int (nI (255 - i))), (0, .ref (Ad G 20)), (1, .int (nI p))] [] (mH G (hset h (Ad G 29) (eZ G 256 (stF N no p (255 - i) (seF N no p (poF N no cn p) i)))) (eMd G sv rem typ err lin why wha beh its siz att wro tol) N)) → XX l G mX12_filled (Rm 9 0 0) (KQ G (Rm 9 0 0) (fun w h' => w = some (.int (mfM (poF N no cn np) 256)) ∧ h' = (mH G (hset h (Ad G 29) (eZ G 256 (poF N no cn np))) (eMd G sv rem typ err lin why wha beh its siz att wro tol) N))) 0 0 52 [(3, .int (nI 0)), (2, .int (nI (255 - i))), (0, .ref (Ad G 20)), (1, .int (nI p))] [] (mH G (hset h (Ad G 29) (eZ G 256 (seF N no p (poF N no cn p) i))) (eMd G sv rem typ err lin why wha beh its siz att wro tol) N) := by
          intro kx
          unfold stF at kx
          by_cases hcs : (seF N no p (poF N no cn p) i) (255 - i) = 0
          · rw [if_pos hcs] at kx
            refine x_iload_n 0 dX12_filled_52 rfl rfl ?_
            first | refine x_aload_n 2 dX12_filled_53 rfl rfl ?_ | refine x_aload_nN 2 dX12_filled_53 rfl rfl ?_
            refine x_get fX12_9 rfl dX12_filled_54 (by with_reducible repeat first | assumption | exact mH_0 ok | exact mH_1 | exact hset_s | refine mH_o (by first | assumption | exact nA ok (by omega) (by omega) (by omega)) (by first | assumption | exact nA ok (by omega) (by omega) (by omega)) ?_ | refine hget_n (by first | assumption | exact Ne.symm (by assumption) | exact nA ok (by omega) (by omega) (by omega)) ?_) (by rfl) ?_
            refine x_iconst (v := 4) dX12_filled_57 rfl ?_
            refine x_mald (i := 4) (by first | exact Eq.refl (nI _) | exact ix_p _ _ | exact ix_o _ _ | exact ix_s _ | exact ix_s1 _ _ | (rw [ix_s]; exact nI_add _ _) | exact nI_add _ 1 | exact nI_add _ 2 | exact nI_add _ 3 | exact nI_add _ 4 | (rw [ix_o0]; exact nI_add _ 3) | (rw [ix_o0]; exact nI_add _ 4) | (rw [ix_o0]; exact nI_add _ _) | (rw [ix_o0]; exact (nI_add _ 3).trans (congrArg nI (by omega))) | (rw [ix_o0]; exact (nI_add _ 4).trans (congrArg nI (by omega))) | exact (nI_add _ 1).trans (congrArg nI (by omega)) | exact (nI_add _ 2).trans (congrArg nI (by omega)) | exact (nI_add _ 3).trans (congrArg nI (by omega)) | exact (nI_add _ 4).trans (congrArg nI (by omega))) dX12_filled_58 (by omega) rfl ?_
            refine x_icmp_ge 132 dX12_filled_59 (by decide) (fun c59 => ?_) (fun c59 => ?_)
            · exact kx _
            · first | refine x_aload_n 2 dX12_filled_62 rfl rfl ?_ | refine x_aload_nN 2 dX12_filled_62 rfl rfl ?_
              refine x_get fX12_38 rfl dX12_filled_63 (by with_reducible repeat first | assumption | exact mH_0 ok | exact mH_1 | exact hset_s | refine mH_o (by first | assumption | exact nA ok (by omega) (by omega) (by omega)) (by first | assumption | exact nA ok (by omega) (by omega) (by omega)) ?_ | refine hget_n (by first | assumption | exact Ne.symm (by assumption) | exact nA ok (by omega) (by omega) (by omega)) ?_) (by rfl) ?_
              refine x_iload_n 1 dX12_filled_66 rfl rfl ?_
              refine x_mzld ok dX12_filled_67 (by omega) ?_
              refine x_if_eq 132 dX12_filled_68 (by decide) (fun _ => ?_) (fun z => by first | exact absurd (hcs) z | exact absurd z (hcs))
              exact kx _
          · rw [if_neg hcs] at kx
            refine x_locs (L' := [(3, _), (2, _), (0, _), (1, _)]) [0, 1, 2, 3] rfl ?_
            refine dn (P := fun q => XX l G mX12_filled (Rm 9 0 0) (KQ G (Rm 9 0 0) (fun w h' => w = some (.int (mfM (poF N no cn np) 256)) ∧ h' = (mH G (hset h (Ad G 29) (eZ G 256 (poF N no cn np))) (eMd G sv rem typ err lin why wha beh its siz att wro tol) N))) 0 0 52 [(3, .int (nI q)), (2, .int (nI (255 - i))), (0, .ref (Ad G 20)), (1, .int (nI p))] [] (mH G (hset h (Ad G 29) (eZ G 256 (inF N p (255 - i) (seF N no p (poF N no cn p) i) q))) (eMd G sv rem typ err lin why wha beh its siz att wro tol) N)) (n := no) ?_ (fun q hq ihq => ?_)
            · refine x_iload_n 0 dX12_filled_52 rfl rfl ?_
              first | refine x_aload_n 2 dX12_filled_53 rfl rfl ?_ | refine x_aload_nN 2 dX12_filled_53 rfl rfl ?_
              refine x_get fX12_9 rfl dX12_filled_54 (by with_reducible repeat first | assumption | exact mH_0 ok | exact mH_1 | exact hset_s | refine mH_o (by first | assumption | exact nA ok (by omega) (by omega) (by omega)) (by first | assumption | exact nA ok (by omega) (by omega) (by omega)) ?_ | refine hget_n (by first | assumption | exact Ne.symm (by assumption) | exact nA ok (by omega) (by omega) (by omega)) ?_) (by rfl) ?_
              refine x_iconst (v := 4) dX12_filled_57 rfl ?_
              refine x_mald (i := 4) (by first | exact Eq.refl (nI _) | exact ix_p _ _ | exact ix_o _ _ | exact ix_s _ | exact ix_s1 _ _ | (rw [ix_s]; exact nI_add _ _) | exact nI_add _ 1 | exact nI_add _ 2 | exact nI_add _ 3 | exact nI_add _ 4 | (rw [ix_o0]; exact nI_add _ 3) | (rw [ix_o0]; exact nI_add _ 4) | (rw [ix_o0]; exact nI_add _ _) | (rw [ix_o0]; exact (nI_add _ 3).trans (congrArg nI (by omega))) | (rw [ix_o0]; exact (nI_add _ 4).trans (congrArg nI (by omega))) | exact (nI_add _ 1).trans (congrArg nI (by omega)) | exact (nI_add _ 2).trans (congrArg nI (by omega)) | exact (nI_add _ 3).trans (congrArg nI (by omega)) | exact (nI_add _ 4).trans (congrArg nI (by omega))) dX12_filled_58 (by omega) rfl ?_
              refine x_icmp_ge 132 dX12_filled_59 (by decide) (fun _ => ?_) (fun z => by first | exact absurd (by rw [a4]; exact Int32.le_refl _) z | exact absurd z (by rw [a4]; exact Int32.le_refl _))
              exact kx _
            · have hs256 : 255 - i < 256 := by omega
              have hq8 : q < 8 := by omega
              refine x_iload_n 0 dX12_filled_52 rfl rfl ?_
              first | refine x_aload_n 2 dX12_filled_53 rfl rfl ?_ | refine x_aload_nN 2 dX12_filled_53 rfl rfl ?_
              refine x_get fX12_9 rfl dX12_filled_54 (by with_reducible repeat first | assumption | exact mH_0 ok | exact mH_1 | exact hset_s | refine mH_o (by first | assumption | exact nA ok (by omega) (by omega) (by omega)) (by first | assumption | exact nA ok (by omega) (by omega) (by omega)) ?_ | refine hget_n (by first | assumption | exact Ne.symm (by assumption) | exact nA ok (by omega) (by omega) (by omega)) ?_) (by rfl) ?_
              refine x_iconst (v := 4) dX12_filled_57 rfl ?_
              refine x_mald (i := 4) (by first | exact Eq.refl (nI _) | exact ix_p _ _ | exact ix_o _ _ | exact ix_s _ | exact ix_s1 _ _ | (rw [ix_s]; exact nI_add _ _) | exact nI_add _ 1 | exact nI_add _ 2 | exact nI_add _ 3 | exact nI_add _ 4 | (rw [ix_o0]; exact nI_add _ 3) | (rw [ix_o0]; exact nI_add _ 4) | (rw [ix_o0]; exact nI_add _ _) | (rw [ix_o0]; exact (nI_add _ 3).trans (congrArg nI (by omega))) | (rw [ix_o0]; exact (nI_add _ 4).trans (congrArg nI (by omega))) | exact (nI_add _ 1).trans (congrArg nI (by omega)) | exact (nI_add _ 2).trans (congrArg nI (by omega)) | exact (nI_add _ 3).trans (congrArg nI (by omega)) | exact (nI_add _ 4).trans (congrArg nI (by omega))) dX12_filled_58 (by omega) rfl ?_
              refine x_icmp_ge 132 dX12_filled_59 (by decide) (fun z => by first | exact absurd z (by rw [a4]; exact nI_ge hq (by omega)) | exact absurd (by rw [a4]; exact nI_ge hq (by omega)) z) (fun _ => ?_)
              first | refine x_aload_n 2 dX12_filled_62 rfl rfl ?_ | refine x_aload_nN 2 dX12_filled_62 rfl rfl ?_
              refine x_get fX12_38 rfl dX12_filled_63 (by with_reducible repeat first | assumption | exact mH_0 ok | exact mH_1 | exact hset_s | refine mH_o (by first | assumption | exact nA ok (by omega) (by omega) (by omega)) (by first | assumption | exact nA ok (by omega) (by omega) (by omega)) ?_ | refine hget_n (by first | assumption | exact Ne.symm (by assumption) | exact nA ok (by omega) (by omega) (by omega)) ?_) (by rfl) ?_
              refine x_iload_n 1 dX12_filled_66 rfl rfl ?_
              refine x_mzld ok dX12_filled_67 (by omega) ?_
              refine x_if_eq 132 dX12_filled_68 (by decide) (fun z => by first | exact absurd z (inF_n hcs q) | exact absurd (inF_n hcs q) z) (fun _ => ?_)
              have J104 : ∀ v : Int32, v = dsM N p (255 - i) q → XX l G mX12_filled (Rm 9 0 0) (KQ G (Rm 9 0 0) (fun w h' => w = some (.int (mfM (poF N no cn np) 256)) ∧ h' = (mH G (hset h (Ad G 29) (eZ G 256 (poF N no cn np))) (eMd G sv rem typ err lin why wha beh its siz att wro tol) N))) 0 0 104 [(3, .int (nI q)), (2, .int (nI (255 - i))), (0, .ref (Ad G 20)), (1, .int (nI p))] [.int v] (mH G (hset h (Ad G 29) (eZ G 256 (inF N p (255 - i) (seF N no p (poF N no cn p) i) q))) (eMd G sv rem typ err lin why wha beh its siz att wro tol) N) := by
                intro v hv
                subst hv
                refine x_istore (L' := [(4, _), (3, _), (2, _), (0, _), (1, _)]) dX12_filled_104 (ble rfl) rfl ?_
                first | refine x_aload_n 3 dX12_filled_106 rfl rfl ?_ | refine x_aload_nN 3 dX12_filled_106 rfl rfl ?_
                refine x_get fX12_38 rfl dX12_filled_107 (by with_reducible repeat first | assumption | exact mH_0 ok | exact mH_1 | exact hset_s | refine mH_o (by first | assumption | exact nA ok (by omega) (by omega) (by omega)) (by first | assumption | exact nA ok (by omega) (by omega) (by omega)) ?_ | refine hget_n (by first | assumption | exact Ne.symm (by assumption) | exact nA ok (by omega) (by omega) (by omega)) ?_) (by rfl) ?_
                refine x_iload_n 2 dX12_filled_110 rfl rfl ?_
                refine x_iload 0 dX12_filled_111 rfl ?_
                have J123 : ∀ v : Int32, v = vS N p (255 - i) q → XX l G mX12_filled (Rm 9 0 0) (KQ G (Rm 9 0 0) (fun w h' => w = some (.int (mfM (poF N no cn np) 256)) ∧ h' = (mH G (hset h (Ad G 29) (eZ G 256 (poF N no cn np))) (eMd G sv rem typ err lin why wha beh its siz att wro tol) N))) 0 0 123 [(4, .int (dsM N p (255 - i) q)), (3, .int (nI q)), (2, .int (nI (255 - i))), (0, .ref (Ad G 20)), (1, .int (nI p))] [.int v, .int (nI (255 - i)), .ref (Ad G 29)] (mH G (hset h (Ad G 29) (eZ G 256 (inF N p (255 - i) (seF N no p (poF N no cn p) i) q))) (eMd G sv rem typ err lin why wha beh its siz att wro tol) N) := by
                  intro v hv
                  subst hv
                  refine x_ior dX12_filled_123 ?_
                  refine x_iconst (v := 1) dX12_filled_124 rfl ?_
                  refine x_mzst ok (or_e _ (by omega) _ (by omega)) rfl dX12_filled_125 (by exact or_lt (by omega) (by omega)) ?_
                  refine x_iinc (L' := [(3, _), (4, _), (2, _), (0, _), (1, _)]) (j := 1) (nI (_ + 1)) dX12_filled_126 rfl (nI_1 _) (ble rfl) rfl ?_
                  refine x_goto 52 dX12_filled_129 (by decide) ?_
                  refine x_locs (L' := [(3, _), (2, _), (0, _), (1, _)]) [0, 2, 3, 4] rfl ?_
                  rw [inF_s]
                  exact ihq
                refine x_if_eq 122 dX12_filled_113 (by decide) (fun c113 => ?_) (fun c113 => ?_)
                · refine x_iconst (v := 0) dX12_filled_122 rfl ?_
                  refine x_locs (L' := [(4, _), (3, _), (2, _), (0, _), (1, _)]) [0, 1, 2, 3, 4] rfl ?_
                  refine J123 _ ?_
                  unfold vS
                  first | exact (if_pos c113).symm | exact (if_neg c113).symm
                · refine x_iconst (v := 1) dX12_filled_116 rfl ?_
                  refine x_iload_n 1 dX12_filled_117 rfl rfl ?_
                  refine x_ishl dX12_filled_118 ?_
                  refine x_goto 123 dX12_filled_119 (by decide) ?_
                  refine x_locs (L' := [(4, _), (3, _), (2, _), (0, _), (1, _)]) [0, 1, 2, 3, 4] rfl ?_
                  refine J123 _ ?_
                  unfold vS
                  first | exact (if_pos c113).symm | exact (if_neg c113).symm
              refine x_iload_n 1 dX12_filled_71 rfl rfl ?_
              refine x_iload_n 0 dX12_filled_72 rfl rfl ?_
              refine x_ishr dX12_filled_73 ?_
              refine x_iconst (v := 1) dX12_filled_74 rfl ?_
              refine x_iand dX12_filled_75 ?_
              refine x_if_ne 103 dX12_filled_76 (by decide) (fun c76 => ?_) (fun c76 => ?_)
              · refine x_iconst (v := 0) dX12_filled_103 rfl ?_
                refine x_locs (L' := [(3, _), (2, _), (0, _), (1, _)]) [0, 1, 2, 3] rfl ?_
                refine J104 _ ?_
                first | exact (if_neg (fun z => c76 z.1)).symm | exact (if_neg (fun z => c87 z.2.1)).symm | exact (if_neg (fun z => z.2.2 c96)).symm | exact (if_pos ⟨c76, c87, c96⟩).symm
              · first | refine x_aload_n 2 dX12_filled_79 rfl rfl ?_ | refine x_aload_nN 2 dX12_filled_79 rfl rfl ?_
                refine x_iload_n 0 dX12_filled_80 rfl rfl ?_
                refine x_iconst (v := 3) dX12_filled_81 rfl ?_
                refine x_cV1 (As := [.int _, .int _]) (ct_X12_ofOrder_3 ok (by omega)) vX12_162 rfl (x_recv (by with_reducible repeat first | assumption | exact mH_0 ok | exact mH_1 | exact hset_s | refine mH_o (by first | assumption | exact nA ok (by omega) (by omega) (by omega)) (by first | assumption | exact nA ok (by omega) (by omega) (by omega)) ?_ | refine hget_n (by first | assumption | exact Ne.symm (by assumption) | exact nA ok (by omega) (by omega) (by omega)) ?_) rfl) rfl ⟨ble rfl, ble rfl⟩ (ble rfl) dX12_filled_82 rfl ?_
                refine x_bipush (v := -4) dX12_filled_85 rfl ?_
                refine x_icmp_ne 103 dX12_filled_87 (by decide) (fun c87 => ?_) (fun c87 => ?_)
                · refine x_iconst (v := 0) dX12_filled_103 rfl ?_
                  refine x_locs (L' := [(3, _), (2, _), (0, _), (1, _)]) [0, 1, 2, 3] rfl ?_
                  refine J104 _ ?_
                  first | exact (if_neg (fun z => c76 z.1)).symm | exact (if_neg (fun z => c87 z.2.1)).symm | exact (if_neg (fun z => z.2.2 c96)).symm | exact (if_pos ⟨c76, c87, c96⟩).symm
                · first | refine x_aload_n 2 dX12_filled_90 rfl rfl ?_ | refine x_aload_nN 2 dX12_filled_90 rfl rfl ?_
                  refine x_iload_n 3 dX12_filled_91 rfl rfl ?_
                  refine x_iload_n 0 dX12_filled_92 rfl rfl ?_
                  refine x_cV1 (As := [.int _, .int _]) (ct_X12_isGood ok (by omega) (by omega) (AP p (by omega)) (AO q hq)) vX12_183 rfl (x_recv (by with_reducible repeat first | assumption | exact mH_0 ok | exact mH_1 | exact hset_s | refine mH_o (by first | assumption | exact nA ok (by omega) (by omega) (by omega)) (by first | assumption | exact nA ok (by omega) (by omega) (by omega)) ?_ | refine hget_n (by first | assumption | exact Ne.symm (by assumption) | exact nA ok (by omega) (by omega) (by omega)) ?_) rfl) rfl ⟨ble rfl, ble rfl⟩ (ble rfl) dX12_filled_93 rfl ?_
                  refine x_if_eq 103 dX12_filled_96 (by decide) (fun c96 => ?_) (fun c96 => ?_)
                  · refine x_iconst (v := 0) dX12_filled_103 rfl ?_
                    refine x_locs (L' := [(3, _), (2, _), (0, _), (1, _)]) [0, 1, 2, 3] rfl ?_
                    refine J104 _ ?_
                    first | exact (if_neg (fun z => c76 z.1)).symm | exact (if_neg (fun z => c87 z.2.1)).symm | exact (if_neg (fun z => z.2.2 c96)).symm | exact (if_pos ⟨c76, c87, c96⟩).symm
                  · refine x_iconst (v := 1) dX12_filled_99 rfl ?_
                    refine x_goto 104 dX12_filled_100 (by decide) ?_
                    refine x_locs (L' := [(3, _), (2, _), (0, _), (1, _)]) [0, 1, 2, 3] rfl ?_
                    refine J104 _ ?_
                    first | exact (if_neg (fun z => c76 z.1)).symm | exact (if_neg (fun z => c87 z.2.1)).symm | exact (if_neg (fun z => z.2.2 c96)).symm | exact (if_pos ⟨c76, c87, c96⟩).symm
        refine x_iload_n 0 dX12_filled_46 rfl rfl ?_
        refine x_if_lt 138 dX12_filled_47 (by decide) (fun z => by first | exact absurd z (nI_pos (by omega)) | exact absurd (nI_pos (by omega)) z) (fun _ => ?_)
        refine x_iconst (v := 0) dX12_filled_50 rfl ?_
        refine x_istore_n (L' := [(3, _), (2, _), (0, _), (1, _)]) dX12_filled_51 rfl (ble rfl) rfl ?_
        refine x_locs (L' := [(3, _), (2, _), (0, _), (1, _)]) [0, 1, 2, 3] rfl ?_
        refine J (fun e3 => ?_)
        refine x_iinc (L' := [(2, _), (3, _), (0, _), (1, _)]) (j := 1) (_ + (-1)) dX12_filled_132 rfl rfl (ble rfl) rfl ?_
        refine x_goto 46 dX12_filled_135 (by decide) ?_
        refine x_locs (L' := [(2, _), (0, _), (1, _)]) [0, 2, 3] rfl ?_
        refine x_eqL ?_ ihi
        rw [← dI_n hi, dI_s]
  · refine x_iload_n 0 dX12_filled_2 rfl rfl ?_
    refine x_sipush (v := 256) dX12_filled_3 rfl ?_
    refine x_icmp_ge 30 dX12_filled_6 (by decide) (fun z => by first | exact absurd z (show ¬ nI 256 ≤ nI i from nI_ge hi (by omega)) | exact absurd (show ¬ nI 256 ≤ nI i from nI_ge hi (by omega)) z) (fun _ => ?_)
    first | refine x_aload_n 1 dX12_filled_9 rfl rfl ?_ | refine x_aload_nN 1 dX12_filled_9 rfl rfl ?_
    refine x_get fX12_38 rfl dX12_filled_10 (by with_reducible repeat first | assumption | exact mH_0 ok | exact mH_1 | exact hset_s | refine mH_o (by first | assumption | exact nA ok (by omega) (by omega) (by omega)) (by first | assumption | exact nA ok (by omega) (by omega) (by omega)) ?_ | refine hget_n (by first | assumption | exact Ne.symm (by assumption) | exact nA ok (by omega) (by omega) (by omega)) ?_) (by rfl) ?_
    refine x_iload_n 0 dX12_filled_13 rfl rfl ?_
    refine x_iload_n 0 dX12_filled_14 rfl rfl ?_
    refine x_if_ne 22 dX12_filled_15 (by decide) (fun c15 => ?_) (fun c15 => ?_)
    · refine x_iconst (v := 0) dX12_filled_22 rfl ?_
      refine x_mzst ok (Eq.refl (nI _)) rfl dX12_filled_23 (by omega) ?_
      refine x_iinc (L' := [(1, _), (0, _)]) (j := 0) (nI (_ + 1)) dX12_filled_24 rfl (nI_1 _) (ble rfl) rfl ?_
      refine x_goto 2 dX12_filled_27 (by decide) ?_
      refine x_locs (L' := [(1, _), (0, _)]) [0, 1] rfl ?_
      first | (rw [ziF_s cn i (if_pos (nI_z (by omega) c15)).symm]; exact ihi) | (rw [ziF_s cn i (if_neg (fun z => c15 (by rw [z]; rfl))).symm]; exact ihi)
    · refine x_iconst (v := 1) dX12_filled_18 rfl ?_
      refine x_goto 23 dX12_filled_19 (by decide) ?_
      refine x_mzst ok (Eq.refl (nI _)) rfl dX12_filled_23 (by omega) ?_
      refine x_iinc (L' := [(1, _), (0, _)]) (j := 0) (nI (_ + 1)) dX12_filled_24 rfl (nI_1 _) (ble rfl) rfl ?_
      refine x_goto 2 dX12_filled_27 (by decide) ?_
      refine x_locs (L' := [(1, _), (0, _)]) [0, 1] rfl ?_
      first | (rw [ziF_s cn i (if_pos (nI_z (by omega) c15)).symm]; exact ihi) | (rw [ziF_s cn i (if_neg (fun z => c15 (by rw [z]; rfl))).symm]; exact ihi)
