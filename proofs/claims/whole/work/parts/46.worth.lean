def fwW (N : Nat → Int32) (t : Int32) (j : Nat) : Nat → Int32
  | 0 => -1
  | i + 1 => if fwW N t j i = -1 ∧ (t >>> (nI i &&& 31)) &&& 1 = 0 ∧ ¬ goodN N i j = 0 then nI i else fwW N t j i
theorem fwW_s (N : Nat → Int32) (t : Int32) (j i : Nat) : fwW N t j (i + 1) = if fwW N t j i = -1 ∧ (t >>> (nI i &&& 31)) &&& 1 = 0 ∧ ¬ goodN N i j = 0 then nI i else fwW N t j i := rfl
def fvW (N : Nat → Int32) (np : Nat) (t : Int32) (j : Nat) : Int32 := if N (191 + 5 * j) = -4 then fwW N t j np else -1
theorem fwW_c (N : Nat → Int32) (t : Int32) (j : Nat) : ∀ p, fwW N t j p = -1 ∨ ∃ b, b < p ∧ fwW N t j p = nI b
  | 0 => Or.inl rfl
  | p + 1 => by
    rw [fwW_s]
    split
    · exact Or.inr ⟨p, by omega, rfl⟩
    · rcases fwW_c N t j p with h | ⟨b, hb, e⟩
      · exact Or.inl h
      · exact Or.inr ⟨b, by omega, e⟩
theorem fvW_c (N : Nat → Int32) (np : Nat) (t : Int32) (j : Nat) : fvW N np t j = -1 ∨ ∃ b, b < np ∧ fvW N np t j = nI b := by
  unfold fvW
  split
  · exact fwW_c N t j np
  · exact Or.inl rfl
def wMt (N : Nat → Int32) (np : Nat) : Nat → Int32
  | 0 => 0
  | j + 1 => wMt N np j ||| (if fvW N np (wMt N np j) j = -1 then 0 else (1 : Int32) <<< (fvW N np (wMt N np j) j &&& 31))
def wMs (N : Nat → Int32) (np : Nat) : Nat → Int32
  | 0 => 0
  | j + 1 => wMs N np j + (if fvW N np (wMt N np j) j = -1 then 0 else payK (N (64 + 8 * kOf (fvW N np (wMt N np j) j))) (N (190 + 5 * j)))
theorem wMt_s (N : Nat → Int32) (np j : Nat) : wMt N np (j + 1) = wMt N np j ||| (if fvW N np (wMt N np j) j = -1 then 0 else (1 : Int32) <<< (fvW N np (wMt N np j) j &&& 31)) := rfl
theorem wMs_s (N : Nat → Int32) (np j : Nat) : wMs N np (j + 1) = wMs N np j + (if fvW N np (wMt N np j) j = -1 then 0 else payK (N (64 + 8 * kOf (fvW N np (wMt N np j) j))) (N (190 + 5 * j))) := rfl
set_option maxRecDepth 100000 in
set_option maxHeartbeats 1000000 in
theorem ct_X12_worth {l : Launch} {G : Gl} {h : Hp} {sv rem typ err lin why wha beh its siz att wro tol : Int32} {N : Nat → Int32} (ok : Ok G) {ns np no : Nat} (A : RowA N ns np no) : CtR l G mX12_worth 9 [.ref (Ad G 20)] (mH G h (eMd G sv rem typ err lin why wha beh its siz att wro tol) N) (some (.int (wMs N np no))) (mH G h (eMd G sv rem typ err lin why wha beh its siz att wro tol) N) := by
  have A0 := A
  obtain ⟨a2, a3, a4, b2, b3, b4, AP, AO⟩ := A
  refine Ct.of (L := [(0, _)]) (by decide) (ble rfl) rfl ?_
  refine x_iconst (v := 0) dX12_worth_0 rfl ?_
  refine x_istore_n (L' := [(1, _), (0, _)]) dX12_worth_1 rfl (ble rfl) rfl ?_
  refine x_iconst (v := 0) dX12_worth_2 rfl ?_
  refine x_istore_n (L' := [(2, _), (1, _), (0, _)]) dX12_worth_3 rfl (ble rfl) rfl ?_
  refine x_iconst (v := 0) dX12_worth_4 rfl ?_
  refine x_istore_n (L' := [(3, _), (2, _), (1, _), (0, _)]) dX12_worth_5 rfl (ble rfl) rfl ?_
  refine x_locs (L' := [(3, _), (1, _), (2, _), (0, _)]) [0, 2, 1, 3] rfl ?_
  refine dn (P := fun j => XX l G mX12_worth (Rm 9 0 0) (KQ G (Rm 9 0 0) (fun w h' => w = some (.int (wMs N np no)) ∧ h' = (mH G h (eMd G sv rem typ err lin why wha beh its siz att wro tol) N))) 0 0 6 [(3, .int (nI j)), (1, .int (wMt N np j)), (2, .int (wMs N np j)), (0, .ref (Ad G 20))] [] (mH G h (eMd G sv rem typ err lin why wha beh its siz att wro tol) N)) (n := no) ?_ (fun j hj ihj => ?_)
  · refine x_iload_n 0 dX12_worth_6 rfl rfl ?_
    first | refine x_aload_n 3 dX12_worth_7 rfl rfl ?_ | refine x_aload_nN 3 dX12_worth_7 rfl rfl ?_
    refine x_get fX12_9 rfl dX12_worth_8 (by with_reducible repeat first | assumption | exact mH_0 ok | exact mH_1 | exact hset_s | refine mH_o (by first | assumption | exact nA ok (by omega) (by omega) (by omega)) (by first | assumption | exact nA ok (by omega) (by omega) (by omega)) ?_ | refine hget_n (by first | assumption | exact Ne.symm (by assumption) | exact nA ok (by omega) (by omega) (by omega)) ?_) (by rfl) ?_
    refine x_iconst (v := 4) dX12_worth_11 rfl ?_
    refine x_mald (i := 4) (by first | exact Eq.refl (nI _) | exact ix_p _ _ | exact ix_o _ _ | exact ix_s _ | exact ix_s1 _ _ | (rw [ix_s]; exact nI_add _ _) | exact nI_add _ 1 | exact nI_add _ 2 | exact nI_add _ 3 | exact nI_add _ 4 | (rw [ix_o0]; exact nI_add _ 3) | (rw [ix_o0]; exact nI_add _ 4) | (rw [ix_o0]; exact nI_add _ _) | (rw [ix_o0]; exact (nI_add _ 3).trans (congrArg nI (by omega))) | (rw [ix_o0]; exact (nI_add _ 4).trans (congrArg nI (by omega))) | exact (nI_add _ 1).trans (congrArg nI (by omega)) | exact (nI_add _ 2).trans (congrArg nI (by omega)) | exact (nI_add _ 3).trans (congrArg nI (by omega)) | exact (nI_add _ 4).trans (congrArg nI (by omega))) dX12_worth_12 (by omega) rfl ?_
    refine x_icmp_ge 127 dX12_worth_13 (by decide) (fun _ => ?_) (fun z => by first | exact absurd (by rw [a4]; exact Int32.le_refl _) z | exact absurd z (by rw [a4]; exact Int32.le_refl _))
    refine x_iload_n 2 dX12_worth_127 rfl rfl ?_
    refine x_iret rfl dX12_worth_128 ?_
    exact ⟨rfl, rfl⟩
  · have J : (∀ e5 : Int32, XX l G mX12_worth (Rm 9 0 0) (KQ G (Rm 9 0 0) (fun w h' => w = some (.int (wMs N np no)) ∧ h' = (mH G h (eMd G sv rem typ err lin why wha beh its siz att wro tol) N))) 0 0 84 [(5, .int e5), (4, .int (fvW N np (wMt N np j) j)), (0, .ref (Ad G 20)), (1, .int (wMt N np j)), (2, .int (wMs N np j)), (3, .int (nI j))] [] (mH G h (eMd G sv rem typ err lin why wha beh its siz att wro tol) N)) → XX l G mX12_worth (Rm 9 0 0) (KQ G (Rm 9 0 0) (fun w h' => w = some (.int (wMs N np no)) ∧ h' = (mH G h (eMd G sv rem typ err lin why wha beh its siz att wro tol) N))) 0 0 22 [(5, .int (nI 0)), (4, .int (-1)), (0, .ref (Ad G 20)), (1, .int (wMt N np j)), (2, .int (wMs N np j)), (3, .int (nI j))] [] (mH G h (eMd G sv rem typ err lin why wha beh its siz att wro tol) N) := by
      intro kx
      unfold fvW at kx
      by_cases hfil : N (191 + 5 * j) = -4
      · rw [if_pos hfil] at kx
        refine x_locs (L' := [(5, _), (4, _), (0, _), (1, _), (2, _), (3, _)]) [0, 1, 2, 3, 4, 5] rfl ?_
        refine dn (P := fun i => XX l G mX12_worth (Rm 9 0 0) (KQ G (Rm 9 0 0) (fun w h' => w = some (.int (wMs N np no)) ∧ h' = (mH G h (eMd G sv rem typ err lin why wha beh its siz att wro tol) N))) 0 0 22 [(5, .int (nI i)), (4, .int (fwW N (wMt N np j) j i)), (0, .ref (Ad G 20)), (1, .int (wMt N np j)), (2, .int (wMs N np j)), (3, .int (nI j))] [] (mH G h (eMd G sv rem typ err lin why wha beh its siz att wro tol) N)) (n := np) ?_ (fun i hi ihi => ?_)
        · refine x_iload 0 dX12_worth_22 rfl ?_
          first | refine x_aload_n 2 dX12_worth_24 rfl rfl ?_ | refine x_aload_nN 2 dX12_worth_24 rfl rfl ?_
          refine x_get fX12_9 rfl dX12_worth_25 (by with_reducible repeat first | assumption | exact mH_0 ok | exact mH_1 | exact hset_s | refine mH_o (by first | assumption | exact nA ok (by omega) (by omega) (by omega)) (by first | assumption | exact nA ok (by omega) (by omega) (by omega)) ?_ | refine hget_n (by first | assumption | exact Ne.symm (by assumption) | exact nA ok (by omega) (by omega) (by omega)) ?_) (by rfl) ?_
          refine x_iconst (v := 3) dX12_worth_28 rfl ?_
          refine x_mald (i := 3) (by first | exact Eq.refl (nI _) | exact ix_p _ _ | exact ix_o _ _ | exact ix_s _ | exact ix_s1 _ _ | (rw [ix_s]; exact nI_add _ _) | exact nI_add _ 1 | exact nI_add _ 2 | exact nI_add _ 3 | exact nI_add _ 4 | (rw [ix_o0]; exact nI_add _ 3) | (rw [ix_o0]; exact nI_add _ 4) | (rw [ix_o0]; exact nI_add _ _) | (rw [ix_o0]; exact (nI_add _ 3).trans (congrArg nI (by omega))) | (rw [ix_o0]; exact (nI_add _ 4).trans (congrArg nI (by omega))) | exact (nI_add _ 1).trans (congrArg nI (by omega)) | exact (nI_add _ 2).trans (congrArg nI (by omega)) | exact (nI_add _ 3).trans (congrArg nI (by omega)) | exact (nI_add _ 4).trans (congrArg nI (by omega))) dX12_worth_29 (by omega) rfl ?_
          refine x_icmp_ge 84 dX12_worth_30 (by decide) (fun _ => ?_) (fun z => by first | exact absurd (by rw [a3]; exact Int32.le_refl _) z | exact absurd z (by rw [a3]; exact Int32.le_refl _))
          exact kx _
        · refine x_iload 0 dX12_worth_22 rfl ?_
          first | refine x_aload_n 2 dX12_worth_24 rfl rfl ?_ | refine x_aload_nN 2 dX12_worth_24 rfl rfl ?_
          refine x_get fX12_9 rfl dX12_worth_25 (by with_reducible repeat first | assumption | exact mH_0 ok | exact mH_1 | exact hset_s | refine mH_o (by first | assumption | exact nA ok (by omega) (by omega) (by omega)) (by first | assumption | exact nA ok (by omega) (by omega) (by omega)) ?_ | refine hget_n (by first | assumption | exact Ne.symm (by assumption) | exact nA ok (by omega) (by omega) (by omega)) ?_) (by rfl) ?_
          refine x_iconst (v := 3) dX12_worth_28 rfl ?_
          refine x_mald (i := 3) (by first | exact Eq.refl (nI _) | exact ix_p _ _ | exact ix_o _ _ | exact ix_s _ | exact ix_s1 _ _ | (rw [ix_s]; exact nI_add _ _) | exact nI_add _ 1 | exact nI_add _ 2 | exact nI_add _ 3 | exact nI_add _ 4 | (rw [ix_o0]; exact nI_add _ 3) | (rw [ix_o0]; exact nI_add _ 4) | (rw [ix_o0]; exact nI_add _ _) | (rw [ix_o0]; exact (nI_add _ 3).trans (congrArg nI (by omega))) | (rw [ix_o0]; exact (nI_add _ 4).trans (congrArg nI (by omega))) | exact (nI_add _ 1).trans (congrArg nI (by omega)) | exact (nI_add _ 2).trans (congrArg nI (by omega)) | exact (nI_add _ 3).trans (congrArg nI (by omega)) | exact (nI_add _ 4).trans (congrArg nI (by omega))) dX12_worth_29 (by omega) rfl ?_
          refine x_icmp_ge 84 dX12_worth_30 (by decide) (fun z => by first | exact absurd z (by rw [a3]; exact nI_ge hi (by omega)) | exact absurd (by rw [a3]; exact nI_ge hi (by omega)) z) (fun _ => ?_)
          first | refine x_aload_n 2 dX12_worth_33 rfl rfl ?_ | refine x_aload_nN 2 dX12_worth_33 rfl rfl ?_
          refine x_iload_n 5 dX12_worth_34 rfl rfl ?_
          refine x_iconst (v := 3) dX12_worth_35 rfl ?_
          refine x_cV1 (As := [.int _, .int _]) (ct_X12_ofOrder_3 ok (by omega)) vX12_162 rfl (x_recv (by with_reducible repeat first | assumption | exact mH_0 ok | exact mH_1 | exact hset_s | refine mH_o (by first | assumption | exact nA ok (by omega) (by omega) (by omega)) (by first | assumption | exact nA ok (by omega) (by omega) (by omega)) ?_ | refine hget_n (by first | assumption | exact Ne.symm (by assumption) | exact nA ok (by omega) (by omega) (by omega)) ?_) rfl) rfl ⟨ble rfl, ble rfl⟩ (ble rfl) dX12_worth_36 rfl ?_
          refine x_bipush (v := -4) dX12_worth_39 rfl ?_
          refine x_icmp_ne 84 dX12_worth_41 (by decide) (fun z => by first | exact absurd z (fun z => z hfil) | exact absurd (fun z => z hfil) z) (fun _ => ?_)
          refine x_iload 1 dX12_worth_44 rfl ?_
          refine x_iconst (v := -1) dX12_worth_46 rfl ?_
          refine x_icmp_ne 74 dX12_worth_47 (by decide) (fun c47 => ?_) (fun c47 => ?_)
          · refine x_iload 1 dX12_worth_74 rfl ?_
            refine x_istore (L' := [(4, _), (5, _), (0, _), (1, _), (2, _), (3, _)]) dX12_worth_76 (ble rfl) rfl ?_
            refine x_iinc (L' := [(5, _), (4, _), (0, _), (1, _), (2, _), (3, _)]) (j := 1) (nI (_ + 1)) dX12_worth_78 rfl (nI_1 _) (ble rfl) rfl ?_
            refine x_goto 22 dX12_worth_81 (by decide) ?_
            refine x_locs (L' := [(5, _), (4, _), (0, _), (1, _), (2, _), (3, _)]) [0, 1, 2, 3, 4, 5] rfl ?_
            refine x_eqL ?_ ihi
            rw [fwW_s]
            first | (rw [if_neg (fun z => c47 z.1)]; done) | (rw [if_neg (fun z => c56 z.2.1)]; done) | (rw [if_neg (fun z => z.2.2 c66)]; done) | (rw [if_pos ⟨c47, c56, c66⟩]; done)
          · refine x_iload_n 3 dX12_worth_50 rfl rfl ?_
            refine x_iload 0 dX12_worth_51 rfl ?_
            refine x_ishr dX12_worth_53 ?_
            refine x_iconst (v := 1) dX12_worth_54 rfl ?_
            refine x_iand dX12_worth_55 ?_
            refine x_if_ne 74 dX12_worth_56 (by decide) (fun c56 => ?_) (fun c56 => ?_)
            · refine x_iload 1 dX12_worth_74 rfl ?_
              refine x_istore (L' := [(4, _), (5, _), (0, _), (1, _), (2, _), (3, _)]) dX12_worth_76 (ble rfl) rfl ?_
              refine x_iinc (L' := [(5, _), (4, _), (0, _), (1, _), (2, _), (3, _)]) (j := 1) (nI (_ + 1)) dX12_worth_78 rfl (nI_1 _) (ble rfl) rfl ?_
              refine x_goto 22 dX12_worth_81 (by decide) ?_
              refine x_locs (L' := [(5, _), (4, _), (0, _), (1, _), (2, _), (3, _)]) [0, 1, 2, 3, 4, 5] rfl ?_
              refine x_eqL ?_ ihi
              rw [fwW_s]
              first | (rw [if_neg (fun z => c47 z.1)]; done) | (rw [if_neg (fun z => c56 z.2.1)]; done) | (rw [if_neg (fun z => z.2.2 c66)]; done) | (rw [if_pos ⟨c47, c56, c66⟩]; done)
            · first | refine x_aload_n 2 dX12_worth_59 rfl rfl ?_ | refine x_aload_nN 2 dX12_worth_59 rfl rfl ?_
              refine x_iload 0 dX12_worth_60 rfl ?_
              refine x_iload_n 5 dX12_worth_62 rfl rfl ?_
              refine x_cV1 (As := [.int _, .int _]) (ct_X12_isGood ok (by omega) (by omega) (AP i (by omega)) (AO j hj)) vX12_183 rfl (x_recv (by with_reducible repeat first | assumption | exact mH_0 ok | exact mH_1 | exact hset_s | refine mH_o (by first | assumption | exact nA ok (by omega) (by omega) (by omega)) (by first | assumption | exact nA ok (by omega) (by omega) (by omega)) ?_ | refine hget_n (by first | assumption | exact Ne.symm (by assumption) | exact nA ok (by omega) (by omega) (by omega)) ?_) rfl) rfl ⟨ble rfl, ble rfl⟩ (ble rfl) dX12_worth_63 rfl ?_
              refine x_if_eq 74 dX12_worth_66 (by decide) (fun c66 => ?_) (fun c66 => ?_)
              · refine x_iload 1 dX12_worth_74 rfl ?_
                refine x_istore (L' := [(4, _), (5, _), (0, _), (1, _), (2, _), (3, _)]) dX12_worth_76 (ble rfl) rfl ?_
                refine x_iinc (L' := [(5, _), (4, _), (0, _), (1, _), (2, _), (3, _)]) (j := 1) (nI (_ + 1)) dX12_worth_78 rfl (nI_1 _) (ble rfl) rfl ?_
                refine x_goto 22 dX12_worth_81 (by decide) ?_
                refine x_locs (L' := [(5, _), (4, _), (0, _), (1, _), (2, _), (3, _)]) [0, 1, 2, 3, 4, 5] rfl ?_
                refine x_eqL ?_ ihi
                rw [fwW_s]
                first | (rw [if_neg (fun z => c47 z.1)]; done) | (rw [if_neg (fun z => c56 z.2.1)]; done) | (rw [if_neg (fun z => z.2.2 c66)]; done) | (rw [if_pos ⟨c47, c56, c66⟩]; done)
              · refine x_iload 0 dX12_worth_69 rfl ?_
                refine x_goto 76 dX12_worth_71 (by decide) ?_
                refine x_istore (L' := [(4, _), (5, _), (0, _), (1, _), (2, _), (3, _)]) dX12_worth_76 (ble rfl) rfl ?_
                refine x_iinc (L' := [(5, _), (4, _), (0, _), (1, _), (2, _), (3, _)]) (j := 1) (nI (_ + 1)) dX12_worth_78 rfl (nI_1 _) (ble rfl) rfl ?_
                refine x_goto 22 dX12_worth_81 (by decide) ?_
                refine x_locs (L' := [(5, _), (4, _), (0, _), (1, _), (2, _), (3, _)]) [0, 1, 2, 3, 4, 5] rfl ?_
                refine x_eqL ?_ ihi
                rw [fwW_s]
                first | (rw [if_neg (fun z => c47 z.1)]; done) | (rw [if_neg (fun z => c56 z.2.1)]; done) | (rw [if_neg (fun z => z.2.2 c66)]; done) | (rw [if_pos ⟨c47, c56, c66⟩]; done)
      · rw [if_neg hfil] at kx
        refine x_iload 0 dX12_worth_22 rfl ?_
        first | refine x_aload_n 2 dX12_worth_24 rfl rfl ?_ | refine x_aload_nN 2 dX12_worth_24 rfl rfl ?_
        refine x_get fX12_9 rfl dX12_worth_25 (by with_reducible repeat first | assumption | exact mH_0 ok | exact mH_1 | exact hset_s | refine mH_o (by first | assumption | exact nA ok (by omega) (by omega) (by omega)) (by first | assumption | exact nA ok (by omega) (by omega) (by omega)) ?_ | refine hget_n (by first | assumption | exact Ne.symm (by assumption) | exact nA ok (by omega) (by omega) (by omega)) ?_) (by rfl) ?_
        refine x_iconst (v := 3) dX12_worth_28 rfl ?_
        refine x_mald (i := 3) (by first | exact Eq.refl (nI _) | exact ix_p _ _ | exact ix_o _ _ | exact ix_s _ | exact ix_s1 _ _ | (rw [ix_s]; exact nI_add _ _) | exact nI_add _ 1 | exact nI_add _ 2 | exact nI_add _ 3 | exact nI_add _ 4 | (rw [ix_o0]; exact nI_add _ 3) | (rw [ix_o0]; exact nI_add _ 4) | (rw [ix_o0]; exact nI_add _ _) | (rw [ix_o0]; exact (nI_add _ 3).trans (congrArg nI (by omega))) | (rw [ix_o0]; exact (nI_add _ 4).trans (congrArg nI (by omega))) | exact (nI_add _ 1).trans (congrArg nI (by omega)) | exact (nI_add _ 2).trans (congrArg nI (by omega)) | exact (nI_add _ 3).trans (congrArg nI (by omega)) | exact (nI_add _ 4).trans (congrArg nI (by omega))) dX12_worth_29 (by omega) rfl ?_
        refine x_icmp_ge 84 dX12_worth_30 (by decide) (fun c30 => ?_) (fun c30 => ?_)
        · exact kx _
        · first | refine x_aload_n 2 dX12_worth_33 rfl rfl ?_ | refine x_aload_nN 2 dX12_worth_33 rfl rfl ?_
          refine x_iload_n 5 dX12_worth_34 rfl rfl ?_
          refine x_iconst (v := 3) dX12_worth_35 rfl ?_
          refine x_cV1 (As := [.int _, .int _]) (ct_X12_ofOrder_3 ok (by omega)) vX12_162 rfl (x_recv (by with_reducible repeat first | assumption | exact mH_0 ok | exact mH_1 | exact hset_s | refine mH_o (by first | assumption | exact nA ok (by omega) (by omega) (by omega)) (by first | assumption | exact nA ok (by omega) (by omega) (by omega)) ?_ | refine hget_n (by first | assumption | exact Ne.symm (by assumption) | exact nA ok (by omega) (by omega) (by omega)) ?_) rfl) rfl ⟨ble rfl, ble rfl⟩ (ble rfl) dX12_worth_36 rfl ?_
          refine x_bipush (v := -4) dX12_worth_39 rfl ?_
          refine x_icmp_ne 84 dX12_worth_41 (by decide) (fun _ => ?_) (fun z => by first | exact absurd (hfil) z | exact absurd z (hfil))
          exact kx _
    refine x_iload_n 0 dX12_worth_6 rfl rfl ?_
    first | refine x_aload_n 3 dX12_worth_7 rfl rfl ?_ | refine x_aload_nN 3 dX12_worth_7 rfl rfl ?_
    refine x_get fX12_9 rfl dX12_worth_8 (by with_reducible repeat first | assumption | exact mH_0 ok | exact mH_1 | exact hset_s | refine mH_o (by first | assumption | exact nA ok (by omega) (by omega) (by omega)) (by first | assumption | exact nA ok (by omega) (by omega) (by omega)) ?_ | refine hget_n (by first | assumption | exact Ne.symm (by assumption) | exact nA ok (by omega) (by omega) (by omega)) ?_) (by rfl) ?_
    refine x_iconst (v := 4) dX12_worth_11 rfl ?_
    refine x_mald (i := 4) (by first | exact Eq.refl (nI _) | exact ix_p _ _ | exact ix_o _ _ | exact ix_s _ | exact ix_s1 _ _ | (rw [ix_s]; exact nI_add _ _) | exact nI_add _ 1 | exact nI_add _ 2 | exact nI_add _ 3 | exact nI_add _ 4 | (rw [ix_o0]; exact nI_add _ 3) | (rw [ix_o0]; exact nI_add _ 4) | (rw [ix_o0]; exact nI_add _ _) | (rw [ix_o0]; exact (nI_add _ 3).trans (congrArg nI (by omega))) | (rw [ix_o0]; exact (nI_add _ 4).trans (congrArg nI (by omega))) | exact (nI_add _ 1).trans (congrArg nI (by omega)) | exact (nI_add _ 2).trans (congrArg nI (by omega)) | exact (nI_add _ 3).trans (congrArg nI (by omega)) | exact (nI_add _ 4).trans (congrArg nI (by omega))) dX12_worth_12 (by omega) rfl ?_
    refine x_icmp_ge 127 dX12_worth_13 (by decide) (fun z => by first | exact absurd z (by rw [a4]; exact nI_ge hj (by omega)) | exact absurd (by rw [a4]; exact nI_ge hj (by omega)) z) (fun _ => ?_)
    refine x_iconst (v := -1) dX12_worth_16 rfl ?_
    refine x_istore (L' := [(4, _), (3, _), (1, _), (2, _), (0, _)]) dX12_worth_17 (ble rfl) rfl ?_
    refine x_iconst (v := 0) dX12_worth_19 rfl ?_
    refine x_istore (L' := [(5, _), (4, _), (3, _), (1, _), (2, _), (0, _)]) dX12_worth_20 (ble rfl) rfl ?_
    refine x_locs (L' := [(5, _), (4, _), (0, _), (1, _), (2, _), (3, _)]) [0, 1, 5, 3, 4, 2] rfl ?_
    refine J (fun e5 => ?_)
    have hfc := fvW_c N np (wMt N np j) j
    refine x_iload_n 3 dX12_worth_84 rfl rfl ?_
    refine x_iload 1 dX12_worth_85 rfl ?_
    refine x_iconst (v := -1) dX12_worth_87 rfl ?_
    refine x_icmp_ne 95 dX12_worth_88 (by decide) (fun c88 => ?_) (fun c88 => ?_)
    · refine x_iconst (v := 1) dX12_worth_95 rfl ?_
      refine x_iload 1 dX12_worth_96 rfl ?_
      refine x_ishl dX12_worth_98 ?_
      refine x_ior dX12_worth_99 ?_
      refine x_istore_n (L' := [(1, _), (5, _), (4, _), (0, _), (2, _), (3, _)]) dX12_worth_100 rfl (ble rfl) rfl ?_
      refine x_iload_n 4 dX12_worth_101 rfl rfl ?_
      refine x_iload 2 dX12_worth_102 rfl ?_
      refine x_iconst (v := -1) dX12_worth_104 rfl ?_
      refine x_icmp_ne 112 dX12_worth_105 (by decide) (fun c105 => ?_) (fun c105 => ?_)
      · obtain ⟨pp, hpp, epp⟩ := hfc.resolve_left c105
        first | refine x_aload_n 3 dX12_worth_112 rfl rfl ?_ | refine x_aload_nN 3 dX12_worth_112 rfl rfl ?_
        refine x_iload 2 dX12_worth_113 rfl ?_
        refine x_iload_n 5 dX12_worth_115 rfl rfl ?_
        refine x_eqS (st' := [.int (nI j), .int (nI pp), .ref (Ad G 20), .int _]) (by rw [epp]) ?_
        refine x_cV1 (As := [.int _, .int _]) (ct_X12_payFor ok (i := pp) (by omega) (by omega)) vX12_177 rfl (x_recv (by with_reducible repeat first | assumption | exact mH_0 ok | exact mH_1 | exact hset_s | refine mH_o (by first | assumption | exact nA ok (by omega) (by omega) (by omega)) (by first | assumption | exact nA ok (by omega) (by omega) (by omega)) ?_ | refine hget_n (by first | assumption | exact Ne.symm (by assumption) | exact nA ok (by omega) (by omega) (by omega)) ?_) rfl) rfl ⟨ble rfl, ble rfl⟩ (ble rfl) dX12_worth_116 rfl ?_
        refine x_iadd dX12_worth_119 ?_
        refine x_istore_n (L' := [(2, _), (1, _), (5, _), (4, _), (0, _), (3, _)]) dX12_worth_120 rfl (ble rfl) rfl ?_
        refine x_iinc (L' := [(3, _), (2, _), (1, _), (5, _), (4, _), (0, _)]) (j := 5) (nI (_ + 1)) dX12_worth_121 rfl (nI_1 _) (ble rfl) rfl ?_
        refine x_goto 6 dX12_worth_124 (by decide) ?_
        refine x_locs (L' := [(3, _), (1, _), (2, _), (0, _)]) [0, 2, 1, 5] rfl ?_
        refine x_eqL ?_ ihj
        rw [wMt_s, wMs_s]
        first | exact absurd c88 c105 | exact absurd c105 c88 | (rw [if_pos c88, if_pos c88]; done) | (rw [if_neg c88, if_neg c88]; rw [epp, kOf_nI (by omega)]; done) | (rw [if_neg c88, if_neg c88, epp, kOf_nI (by omega)] <;> rfl)
      · refine x_iconst (v := 0) dX12_worth_108 rfl ?_
        refine x_goto 119 dX12_worth_109 (by decide) ?_
        refine x_iadd dX12_worth_119 ?_
        refine x_istore_n (L' := [(2, _), (1, _), (5, _), (4, _), (0, _), (3, _)]) dX12_worth_120 rfl (ble rfl) rfl ?_
        refine x_iinc (L' := [(3, _), (2, _), (1, _), (5, _), (4, _), (0, _)]) (j := 5) (nI (_ + 1)) dX12_worth_121 rfl (nI_1 _) (ble rfl) rfl ?_
        refine x_goto 6 dX12_worth_124 (by decide) ?_
        refine x_locs (L' := [(3, _), (1, _), (2, _), (0, _)]) [0, 2, 1, 5] rfl ?_
        refine x_eqL ?_ ihj
        rw [wMt_s, wMs_s]
        first | exact absurd c88 c105 | exact absurd c105 c88 | (rw [if_pos c88, if_pos c88]; done) | (rw [if_neg c88, if_neg c88]; rw [epp, kOf_nI (by omega)]; done) | (rw [if_neg c88, if_neg c88, epp, kOf_nI (by omega)] <;> rfl)
    · refine x_iconst (v := 0) dX12_worth_91 rfl ?_
      refine x_goto 99 dX12_worth_92 (by decide) ?_
      refine x_ior dX12_worth_99 ?_
      refine x_istore_n (L' := [(1, _), (5, _), (4, _), (0, _), (2, _), (3, _)]) dX12_worth_100 rfl (ble rfl) rfl ?_
      refine x_iload_n 4 dX12_worth_101 rfl rfl ?_
      refine x_iload 2 dX12_worth_102 rfl ?_
      refine x_iconst (v := -1) dX12_worth_104 rfl ?_
      refine x_icmp_ne 112 dX12_worth_105 (by decide) (fun c105 => ?_) (fun c105 => ?_)
      · obtain ⟨pp, hpp, epp⟩ := hfc.resolve_left c105
        first | refine x_aload_n 3 dX12_worth_112 rfl rfl ?_ | refine x_aload_nN 3 dX12_worth_112 rfl rfl ?_
        refine x_iload 2 dX12_worth_113 rfl ?_
        refine x_iload_n 5 dX12_worth_115 rfl rfl ?_
        refine x_eqS (st' := [.int (nI j), .int (nI pp), .ref (Ad G 20), .int _]) (by rw [epp]) ?_
        refine x_cV1 (As := [.int _, .int _]) (ct_X12_payFor ok (i := pp) (by omega) (by omega)) vX12_177 rfl (x_recv (by with_reducible repeat first | assumption | exact mH_0 ok | exact mH_1 | exact hset_s | refine mH_o (by first | assumption | exact nA ok (by omega) (by omega) (by omega)) (by first | assumption | exact nA ok (by omega) (by omega) (by omega)) ?_ | refine hget_n (by first | assumption | exact Ne.symm (by assumption) | exact nA ok (by omega) (by omega) (by omega)) ?_) rfl) rfl ⟨ble rfl, ble rfl⟩ (ble rfl) dX12_worth_116 rfl ?_
        refine x_iadd dX12_worth_119 ?_
        refine x_istore_n (L' := [(2, _), (1, _), (5, _), (4, _), (0, _), (3, _)]) dX12_worth_120 rfl (ble rfl) rfl ?_
        refine x_iinc (L' := [(3, _), (2, _), (1, _), (5, _), (4, _), (0, _)]) (j := 5) (nI (_ + 1)) dX12_worth_121 rfl (nI_1 _) (ble rfl) rfl ?_
        refine x_goto 6 dX12_worth_124 (by decide) ?_
        refine x_locs (L' := [(3, _), (1, _), (2, _), (0, _)]) [0, 2, 1, 5] rfl ?_
        refine x_eqL ?_ ihj
        rw [wMt_s, wMs_s]
        first | exact absurd c88 c105 | exact absurd c105 c88 | (rw [if_pos c88, if_pos c88]; done) | (rw [if_neg c88, if_neg c88]; rw [epp, kOf_nI (by omega)]; done) | (rw [if_neg c88, if_neg c88, epp, kOf_nI (by omega)] <;> rfl)
      · refine x_iconst (v := 0) dX12_worth_108 rfl ?_
        refine x_goto 119 dX12_worth_109 (by decide) ?_
        refine x_iadd dX12_worth_119 ?_
        refine x_istore_n (L' := [(2, _), (1, _), (5, _), (4, _), (0, _), (3, _)]) dX12_worth_120 rfl (ble rfl) rfl ?_
        refine x_iinc (L' := [(3, _), (2, _), (1, _), (5, _), (4, _), (0, _)]) (j := 5) (nI (_ + 1)) dX12_worth_121 rfl (nI_1 _) (ble rfl) rfl ?_
        refine x_goto 6 dX12_worth_124 (by decide) ?_
        refine x_locs (L' := [(3, _), (1, _), (2, _), (0, _)]) [0, 2, 1, 5] rfl ?_
        refine x_eqL ?_ ihj
        rw [wMt_s, wMs_s]
        first | exact absurd c88 c105 | exact absurd c105 c88 | (rw [if_pos c88, if_pos c88]; done) | (rw [if_neg c88, if_neg c88]; rw [epp, kOf_nI (by omega)]; done) | (rw [if_neg c88, if_neg c88, epp, kOf_nI (by omega)] <;> rfl)
