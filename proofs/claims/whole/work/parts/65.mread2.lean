/-- a run of commands, all of them carried out -/
def RunY : (Nat → Int32) → CmL → (Nat → Int32) → Prop
  | N, [], N' => N' = N
  | N, c :: r, N' => c.1 < 6 ∧ ∃ ns np no v N1, RowA N ns np no ∧ pDo N c = .inr (.inr (v, N1)) ∧ 0 ≤ v ∧ RunY N1 r N'
/-- a run whose command k is refused with o -/
def RunN (o : Out) : (Nat → Int32) → CmL → Nat → Prop
  | _, [], _ => False
  | N, c :: _, 0 => c.1 < 6 ∧ ∃ ns np no, RowA N ns np no ∧ pDo N c = o ∧ OutOk o ∧ ∀ q, ¬ o = .inr (.inr q)
  | N, c :: r, k + 1 => c.1 < 6 ∧ ∃ ns np no v N1, RowA N ns np no ∧ pDo N c = .inr (.inr (v, N1)) ∧ 0 ≤ v ∧ RunN o N1 r k
set_option maxRecDepth 100000 in
set_option maxHeartbeats 1000000 in
theorem mr_y {l : Launch} {G : Gl} {h : Hp} {sv typ err lin siz att wro : Int32} (ok : Ok G) {Bf Hf rs ds kd nb : Nat → Int32} (hbefore : h (Ad G 22) = some (eI G 228 Bf)) (hhistory : h (Ad G 24) = some (eI G 1824 Hf)) (hreasons : h (Ad G 25) = some (eI G 3 rs)) (hdetails : h (Ad G 26) = some (eI G 3 ds)) (hkinds : h (Ad G 30) = some (eI G 16 kd)) (hnumbers : h (Ad G 31) = some (eI G 32 nb)) {k : Nat} (hk : k ≤ 8) {C0 : CmL} (h10 : C0.length ≤ 10) (En : ∀ q, q < C0.length → ∀ c, C0[q]? = some c → kd q = nI (5 + c.1) ∧ nb (2 * q) = c.2.1 ∧ (c.1 < 5 → nb (2 * q + 1) = c.2.2)) {N' : Nat → Int32} {Q : Option Value → Hp → Prop} (hQ : ∀ wha its, Q (some (.int (nI C0.length))) (mH G (hset h (Ad G 24) (eI G 1824 (cpN Bf (if k = 8 then shN Hf 1596 else Hf) 0 (min k 7 * 228) 228))) (eMd G sv (nI (min (k + 1) 8)) typ err lin 0 wha 0 its siz att wro (nI C0.length)) N')) : ∀ (cs : CmL) (ci : Nat) (N : Nat → Int32) (wha its : Int32), ci ≤ C0.length → C0.drop ci = cs → RunY N cs N' → XX l G mX12_read (Rm 12 0 0) (KQ G (Rm 12 0 0) Q) 0 0 42 [(1, .int (nI ci)), (0, .ref (Ad G 20))] [] (mH G h (eMd G sv (nI k) typ err lin 0 wha 0 its siz att wro (nI C0.length)) N)
  | [], ci, N, wha, its, hci, hd, hr => by
    have hle : C0.length ≤ ci := by have e := congrArg List.length hd; rw [List.length_drop] at e; simp only [List.length_nil] at e; omega
    cases hr
    refine x_iload_n 0 dX12_read_42 rfl rfl ?_
    first | refine x_aload_n 1 dX12_read_43 rfl rfl ?_ | refine x_aload_nN 1 dX12_read_43 rfl rfl ?_
    refine x_get fX12_260 rfl dX12_read_44 (by with_reducible repeat first | assumption | exact mH_0 ok | exact mH_1 | exact hset_s | refine mH_o (by first | assumption | exact nA ok (by omega) (by omega) (by omega)) (by first | assumption | exact nA ok (by omega) (by omega) (by omega)) ?_ | refine hget_n (by first | assumption | exact Ne.symm (by assumption) | exact nA ok (by omega) (by omega) (by omega)) ?_) (by rfl) ?_
    refine x_icmp_ge 123 dX12_read_47 (by decide) (fun _ => ?_) (fun z => by first | exact absurd (nI_le hle (by omega)) z | exact absurd z (nI_le hle (by omega)))
    first | refine x_aload_n 1 dX12_read_123 rfl rfl ?_ | refine x_aload_nN 1 dX12_read_123 rfl rfl ?_
    first | refine x_aload_n 1 dX12_read_124 rfl rfl ?_ | refine x_aload_nN 1 dX12_read_124 rfl rfl ?_
    refine x_get fX12_260 rfl dX12_read_125 (by with_reducible repeat first | assumption | exact mH_0 ok | exact mH_1 | exact hset_s | refine mH_o (by first | assumption | exact nA ok (by omega) (by omega) (by omega)) (by first | assumption | exact nA ok (by omega) (by omega) (by omega)) ?_ | refine hget_n (by first | assumption | exact Ne.symm (by assumption) | exact nA ok (by omega) (by omega) (by omega)) ?_) (by rfl) ?_
    refine x_cV1 (As := [.int _]) (ct_X12_ends_o ok hbefore hhistory hreasons hdetails hk (x := nI C0.length) (nI_pos' (by omega))) vX12_93 rfl (x_recv (by with_reducible repeat first | assumption | exact mH_0 ok | exact mH_1 | exact hset_s | refine mH_o (by first | assumption | exact nA ok (by omega) (by omega) (by omega)) (by first | assumption | exact nA ok (by omega) (by omega) (by omega)) ?_ | refine hget_n (by first | assumption | exact Ne.symm (by assumption) | exact nA ok (by omega) (by omega) (by omega)) ?_) rfl) rfl ⟨ble rfl, ble rfl⟩ (ble rfl) dX12_read_128 rfl ?_
    refine x_iret rfl dX12_read_131 ?_
    exact hQ _ _
  | c :: r, ci, N, wha, its, hci, hd, ⟨hv, ns, np, no, v, N1, A, hp, h0, hr⟩ => by
    have hlt : ci < C0.length := by have e := congrArg List.length hd; rw [List.length_drop] at e; simp only [List.length_cons] at e; omega
    have hget : C0[ci]? = some c := by have e := congrArg (fun z => z[0]?) hd; simpa using e
    have hd2 : C0.drop (ci + 1) = r := by rw [← List.tail_drop, hd]; rfl
    have en := En ci hlt c hget
    refine x_iload_n 0 dX12_read_42 rfl rfl ?_
    first | refine x_aload_n 1 dX12_read_43 rfl rfl ?_ | refine x_aload_nN 1 dX12_read_43 rfl rfl ?_
    refine x_get fX12_260 rfl dX12_read_44 (by with_reducible repeat first | assumption | exact mH_0 ok | exact mH_1 | exact hset_s | refine mH_o (by first | assumption | exact nA ok (by omega) (by omega) (by omega)) (by first | assumption | exact nA ok (by omega) (by omega) (by omega)) ?_ | refine hget_n (by first | assumption | exact Ne.symm (by assumption) | exact nA ok (by omega) (by omega) (by omega)) ?_) (by rfl) ?_
    refine x_icmp_ge 123 dX12_read_47 (by decide) (fun z => by first | exact absurd z (nI_ge hlt (by omega)) | exact absurd (nI_ge hlt (by omega)) z) (fun _ => ?_)
    first | refine x_aload_n 1 dX12_read_50 rfl rfl ?_ | refine x_aload_nN 1 dX12_read_50 rfl rfl ?_
    refine x_iload_n 0 dX12_read_51 rfl rfl ?_
    refine x_callW (mc1 := 0) (ms1 := 0) (As := [.int _]) (ct_does ok A hkinds hnumbers (by omega) (c := c) hv en.1 en.2.1 en.2.2) vX12_273 rfl (x_recv (by with_reducible repeat first | assumption | exact mH_0 ok | exact mH_1 | exact hset_s | refine mH_o (by first | assumption | exact nA ok (by omega) (by omega) (by omega)) (by first | assumption | exact nA ok (by omega) (by omega) (by omega)) ?_ | refine hget_n (by first | assumption | exact Ne.symm (by assumption) | exact nA ok (by omega) (by omega) (by omega)) ?_) rfl) rfl ⟨ble rfl, ble rfl⟩ (ble rfl) dX12_read_52 rfl ⟨by omega, by omega⟩ (fun w h1 q1 => ?_)
    obtain ⟨r1, why1, wha1, beh1, its1, N2, rfl, rfl, DD⟩ := q1
    rw [hp] at DD
    obtain ⟨rfl, rfl, rfl, rfl⟩ := DD
    refine x_istore_n (L' := [(2, _), (1, _), (0, _)]) dX12_read_55 rfl (ble rfl) rfl ?_
    first | refine x_aload_n 2 dX12_read_56 rfl rfl ?_ | refine x_aload_nN 2 dX12_read_56 rfl rfl ?_
    refine x_get fX12_51 rfl dX12_read_57 (by with_reducible repeat first | assumption | exact mH_0 ok | exact mH_1 | exact hset_s | refine mH_o (by first | assumption | exact nA ok (by omega) (by omega) (by omega)) (by first | assumption | exact nA ok (by omega) (by omega) (by omega)) ?_ | refine hget_n (by first | assumption | exact Ne.symm (by assumption) | exact nA ok (by omega) (by omega) (by omega)) ?_) (by rfl) ?_
    refine x_if_ne 67 dX12_read_60 (by decide) (fun z => by first | exact absurd z (fun z => z rfl) | exact absurd (fun z => z rfl) z) (fun _ => ?_)
    refine x_iload_n 0 dX12_read_63 rfl rfl ?_
    refine x_if_ge 117 dX12_read_64 (by decide) (fun _ => ?_) (fun z => by first | exact absurd (h0) z | exact absurd z (h0))
    refine x_iinc (L' := [(1, _), (2, _), (0, _)]) (j := 1) (_ + 1) dX12_read_117 rfl rfl (ble rfl) rfl ?_
    refine x_goto 42 dX12_read_120 (by decide) ?_
    refine x_locs (L' := [(1, _), (0, _)]) [0, 2] rfl ?_
    rw [nI_1]
    exact mr_y ok hbefore hhistory hreasons hdetails hkinds hnumbers hk h10 En hQ r (ci + 1) _ _ _ hlt hd2 hr
theorem h25x3 {h : Hp} {a b : Nat} {x y x1 y1 x2 y2 : va_E} (n : a ≠ b) : hset (hset (hset (hset (hset (hset h a x) b y) a x1) b y1) a x2) b y2 = hset (hset h a x2) b y2 := by
  rw [h3031 n, h3031 n]
theorem ref_or {o : Out} {r why wha beh its : Int32} {N' : Nat → Int32} (D : DeedR o r why wha beh its N') (h : OutOk o) (hn : ∀ q, ¬ o = .inr (.inr q)) : ¬ why = 0 ∨ (why = 0 ∧ ¬ 0 ≤ r) := by
  rcases o with c | (⟨w, d, b, i⟩ | q)
  · obtain ⟨rfl, rfl, -⟩ := D
    exact Or.inr ⟨rfl, Int32.not_le.mpr h⟩
  · obtain ⟨rfl, -⟩ := D
    exact Or.inl h
  · exact absurd rfl (hn q)
set_option maxRecDepth 100000 in
set_option maxHeartbeats 1000000 in
theorem mr_n {l : Launch} {G : Gl} {h : Hp} {sv typ err lin siz att wro : Int32} (ok : Ok G) {Bf Hf rs ds kd nb : Nat → Int32} (hbefore : h (Ad G 22) = some (eI G 228 Bf)) (hhistory : h (Ad G 24) = some (eI G 1824 Hf)) (hreasons : h (Ad G 25) = some (eI G 3 rs)) (hdetails : h (Ad G 26) = some (eI G 3 ds)) (hkinds : h (Ad G 30) = some (eI G 16 kd)) (hnumbers : h (Ad G 31) = some (eI G 32 nb)) {k : Nat} (hk : k ≤ 8) {C0 : CmL} (h10 : C0.length ≤ 10) (En : ∀ q, q < C0.length → ∀ c, C0[q]? = some c → kd q = nI (5 + c.1) ∧ nb (2 * q) = c.2.1 ∧ (c.1 < 5 → nb (2 * q + 1) = c.2.2)) {o : Out} {K0 : Nat} {Q : Option Value → Hp → Prop} (hQ : ∀ r why wha beh its N2, DeedR o r why wha beh its N2 → Q (some (.int (-3))) (mH G (hset (hset h (Ad G 25) (eI G 3 (upd (upd (upd rs 0 14) 1 why) 2 beh))) (Ad G 26) (eI G 3 (upd (upd (upd ds 0 (nI K0)) 1 wha) 2 its))) (eMd G sv (nI k) typ err lin why wha beh its siz att wro (nI C0.length)) (cpN Bf N2 0 0 228))) : ∀ (j : Nat) (cs : CmL) (ci : Nat) (N : Nat → Int32) (wha its : Int32), ci + j = K0 → C0.drop ci = cs → RunN o N cs j → XX l G mX12_read (Rm 12 0 0) (KQ G (Rm 12 0 0) Q) 0 0 42 [(1, .int (nI ci)), (0, .ref (Ad G 20))] [] (mH G h (eMd G sv (nI k) typ err lin 0 wha 0 its siz att wro (nI C0.length)) N)
  | _, [], ci, N, wha, its, hci, hd, hr => by cases hr
  | 0, c :: r, ci, N, wha, its, hci, hd, ⟨hv, ns, np, no, A, hp, hok, hno⟩ => by
    have hlt : ci < C0.length := by have e := congrArg List.length hd; rw [List.length_drop] at e; simp only [List.length_cons] at e; omega
    have hget : C0[ci]? = some c := by have e := congrArg (fun z => z[0]?) hd; simpa using e
    have hd2 : C0.drop (ci + 1) = r := by rw [← List.tail_drop, hd]; rfl
    have en := En ci hlt c hget
    have m56 := nA ok (show 25 < 3000 by omega) (show 26 < 3000 by omega) (by omega)
    have m2256 := nA ok (show 22 < 3000 by omega) (show 25 < 3000 by omega) (by omega)
    have m2266 := nA ok (show 22 < 3000 by omega) (show 26 < 3000 by omega) (by omega)
    have m21 := nA ok (show 22 < 3000 by omega) (show 21 < 3000 by omega) (by omega)
    obtain rfl : ci = K0 := by omega
    refine x_iload_n 0 dX12_read_42 rfl rfl ?_
    first | refine x_aload_n 1 dX12_read_43 rfl rfl ?_ | refine x_aload_nN 1 dX12_read_43 rfl rfl ?_
    refine x_get fX12_260 rfl dX12_read_44 (by with_reducible repeat first | assumption | exact mH_0 ok | exact mH_1 | exact hset_s | refine mH_o (by first | assumption | exact nA ok (by omega) (by omega) (by omega)) (by first | assumption | exact nA ok (by omega) (by omega) (by omega)) ?_ | refine hget_n (by first | assumption | exact Ne.symm (by assumption) | exact nA ok (by omega) (by omega) (by omega)) ?_) (by rfl) ?_
    refine x_icmp_ge 123 dX12_read_47 (by decide) (fun z => by first | exact absurd z (nI_ge hlt (by omega)) | exact absurd (nI_ge hlt (by omega)) z) (fun _ => ?_)
    first | refine x_aload_n 1 dX12_read_50 rfl rfl ?_ | refine x_aload_nN 1 dX12_read_50 rfl rfl ?_
    refine x_iload_n 0 dX12_read_51 rfl rfl ?_
    refine x_callW (mc1 := 0) (ms1 := 0) (As := [.int _]) (ct_does ok A hkinds hnumbers (by omega) (c := c) hv en.1 en.2.1 en.2.2) vX12_273 rfl (x_recv (by with_reducible repeat first | assumption | exact mH_0 ok | exact mH_1 | exact hset_s | refine mH_o (by first | assumption | exact nA ok (by omega) (by omega) (by omega)) (by first | assumption | exact nA ok (by omega) (by omega) (by omega)) ?_ | refine hget_n (by first | assumption | exact Ne.symm (by assumption) | exact nA ok (by omega) (by omega) (by omega)) ?_) rfl) rfl ⟨ble rfl, ble rfl⟩ (ble rfl) dX12_read_52 rfl ⟨by omega, by omega⟩ (fun w h1 q1 => ?_)
    obtain ⟨r1, why1, wha1, beh1, its1, N2, rfl, rfl, DD⟩ := q1
    rw [hp] at DD
    refine x_istore_n (L' := [(2, _), (1, _), (0, _)]) dX12_read_55 rfl (ble rfl) rfl ?_
    refine x_locs (L' := [(2, _), (1, _), (0, _)]) [0, 1, 2] rfl ?_
    rcases ref_or DD hok hno with hb | hb
    · first | refine x_aload_n 2 dX12_read_56 rfl rfl ?_ | refine x_aload_nN 2 dX12_read_56 rfl rfl ?_
      refine x_get fX12_51 rfl dX12_read_57 (by with_reducible repeat first | assumption | exact mH_0 ok | exact mH_1 | exact hset_s | refine mH_o (by first | assumption | exact nA ok (by omega) (by omega) (by omega)) (by first | assumption | exact nA ok (by omega) (by omega) (by omega)) ?_ | refine hget_n (by first | assumption | exact Ne.symm (by assumption) | exact nA ok (by omega) (by omega) (by omega)) ?_) (by rfl) ?_
      refine x_if_ne 67 dX12_read_60 (by decide) (fun _ => ?_) (fun z => by first | exact absurd (hb) z | exact absurd z (hb))
      first | refine x_aload_n 2 dX12_read_67 rfl rfl ?_ | refine x_aload_nN 2 dX12_read_67 rfl rfl ?_
      refine x_iconst (v := 0) dX12_read_68 rfl ?_
      refine x_bipush (v := 14) dX12_read_69 rfl ?_
      refine x_iload_n 1 dX12_read_71 rfl rfl ?_
      refine x_cV0 (As := [.int _, .int _, .int _]) (ct_X12_keeps ok (by with_reducible repeat first | assumption | exact mH_0 ok | exact mH_1 | exact hset_s | refine mH_o (by first | assumption | exact nA ok (by omega) (by omega) (by omega)) (by first | assumption | exact nA ok (by omega) (by omega) (by omega)) ?_ | refine hget_n (by first | assumption | exact Ne.symm (by assumption) | exact nA ok (by omega) (by omega) (by omega)) ?_) (by with_reducible repeat first | assumption | exact mH_0 ok | exact mH_1 | exact hset_s | refine mH_o (by first | assumption | exact nA ok (by omega) (by omega) (by omega)) (by first | assumption | exact nA ok (by omega) (by omega) (by omega)) ?_ | refine hget_n (by first | assumption | exact Ne.symm (by assumption) | exact nA ok (by omega) (by omega) (by omega)) ?_) (i := 0) (by omega) _ _) vX12_64 rfl (x_recv (by with_reducible repeat first | assumption | exact mH_0 ok | exact mH_1 | exact hset_s | refine mH_o (by first | assumption | exact nA ok (by omega) (by omega) (by omega)) (by first | assumption | exact nA ok (by omega) (by omega) (by omega)) ?_ | refine hget_n (by first | assumption | exact Ne.symm (by assumption) | exact nA ok (by omega) (by omega) (by omega)) ?_) rfl) rfl ⟨ble rfl, ble rfl⟩ (ble rfl) dX12_read_72 rfl ?_
      first | refine x_aload_n 2 dX12_read_75 rfl rfl ?_ | refine x_aload_nN 2 dX12_read_75 rfl rfl ?_
      refine x_iconst (v := 1) dX12_read_76 rfl ?_
      first | refine x_aload_n 2 dX12_read_77 rfl rfl ?_ | refine x_aload_nN 2 dX12_read_77 rfl rfl ?_
      refine x_get fX12_51 rfl dX12_read_78 (by with_reducible repeat first | assumption | exact mH_0 ok | exact mH_1 | exact hset_s | refine mH_o (by first | assumption | exact nA ok (by omega) (by omega) (by omega)) (by first | assumption | exact nA ok (by omega) (by omega) (by omega)) ?_ | refine hget_n (by first | assumption | exact Ne.symm (by assumption) | exact nA ok (by omega) (by omega) (by omega)) ?_) (by rfl) ?_
      first | refine x_aload_n 2 dX12_read_81 rfl rfl ?_ | refine x_aload_nN 2 dX12_read_81 rfl rfl ?_
      refine x_get fX12_54 rfl dX12_read_82 (by with_reducible repeat first | assumption | exact mH_0 ok | exact mH_1 | exact hset_s | refine mH_o (by first | assumption | exact nA ok (by omega) (by omega) (by omega)) (by first | assumption | exact nA ok (by omega) (by omega) (by omega)) ?_ | refine hget_n (by first | assumption | exact Ne.symm (by assumption) | exact nA ok (by omega) (by omega) (by omega)) ?_) (by rfl) ?_
      refine x_cV0 (As := [.int _, .int _, .int _]) (ct_X12_keeps ok (by with_reducible repeat first | assumption | exact mH_0 ok | exact mH_1 | exact hset_s | refine mH_o (by first | assumption | exact nA ok (by omega) (by omega) (by omega)) (by first | assumption | exact nA ok (by omega) (by omega) (by omega)) ?_ | refine hget_n (by first | assumption | exact Ne.symm (by assumption) | exact nA ok (by omega) (by omega) (by omega)) ?_) (by with_reducible repeat first | assumption | exact mH_0 ok | exact mH_1 | exact hset_s | refine mH_o (by first | assumption | exact nA ok (by omega) (by omega) (by omega)) (by first | assumption | exact nA ok (by omega) (by omega) (by omega)) ?_ | refine hget_n (by first | assumption | exact Ne.symm (by assumption) | exact nA ok (by omega) (by omega) (by omega)) ?_) (i := 1) (by omega) _ _) vX12_64 rfl (x_recv (by with_reducible repeat first | assumption | exact mH_0 ok | exact mH_1 | exact hset_s | refine mH_o (by first | assumption | exact nA ok (by omega) (by omega) (by omega)) (by first | assumption | exact nA ok (by omega) (by omega) (by omega)) ?_ | refine hget_n (by first | assumption | exact Ne.symm (by assumption) | exact nA ok (by omega) (by omega) (by omega)) ?_) rfl) rfl ⟨ble rfl, ble rfl⟩ (ble rfl) dX12_read_85 rfl ?_
      first | refine x_aload_n 2 dX12_read_88 rfl rfl ?_ | refine x_aload_nN 2 dX12_read_88 rfl rfl ?_
      refine x_iconst (v := 2) dX12_read_89 rfl ?_
      first | refine x_aload_n 2 dX12_read_90 rfl rfl ?_ | refine x_aload_nN 2 dX12_read_90 rfl rfl ?_
      refine x_get fX12_61 rfl dX12_read_91 (by with_reducible repeat first | assumption | exact mH_0 ok | exact mH_1 | exact hset_s | refine mH_o (by first | assumption | exact nA ok (by omega) (by omega) (by omega)) (by first | assumption | exact nA ok (by omega) (by omega) (by omega)) ?_ | refine hget_n (by first | assumption | exact Ne.symm (by assumption) | exact nA ok (by omega) (by omega) (by omega)) ?_) (by rfl) ?_
      first | refine x_aload_n 2 dX12_read_94 rfl rfl ?_ | refine x_aload_nN 2 dX12_read_94 rfl rfl ?_
      refine x_get fX12_68 rfl dX12_read_95 (by with_reducible repeat first | assumption | exact mH_0 ok | exact mH_1 | exact hset_s | refine mH_o (by first | assumption | exact nA ok (by omega) (by omega) (by omega)) (by first | assumption | exact nA ok (by omega) (by omega) (by omega)) ?_ | refine hget_n (by first | assumption | exact Ne.symm (by assumption) | exact nA ok (by omega) (by omega) (by omega)) ?_) (by rfl) ?_
      refine x_cV0 (As := [.int _, .int _, .int _]) (ct_X12_keeps ok (by with_reducible repeat first | assumption | exact mH_0 ok | exact mH_1 | exact hset_s | refine mH_o (by first | assumption | exact nA ok (by omega) (by omega) (by omega)) (by first | assumption | exact nA ok (by omega) (by omega) (by omega)) ?_ | refine hget_n (by first | assumption | exact Ne.symm (by assumption) | exact nA ok (by omega) (by omega) (by omega)) ?_) (by with_reducible repeat first | assumption | exact mH_0 ok | exact mH_1 | exact hset_s | refine mH_o (by first | assumption | exact nA ok (by omega) (by omega) (by omega)) (by first | assumption | exact nA ok (by omega) (by omega) (by omega)) ?_ | refine hget_n (by first | assumption | exact Ne.symm (by assumption) | exact nA ok (by omega) (by omega) (by omega)) ?_) (i := 2) (by omega) _ _) vX12_64 rfl (x_recv (by with_reducible repeat first | assumption | exact mH_0 ok | exact mH_1 | exact hset_s | refine mH_o (by first | assumption | exact nA ok (by omega) (by omega) (by omega)) (by first | assumption | exact nA ok (by omega) (by omega) (by omega)) ?_ | refine hget_n (by first | assumption | exact Ne.symm (by assumption) | exact nA ok (by omega) (by omega) (by omega)) ?_) rfl) rfl ⟨ble rfl, ble rfl⟩ (ble rfl) dX12_read_98 rfl ?_
      first | refine x_aload_n 2 dX12_read_101 rfl rfl ?_ | refine x_aload_nN 2 dX12_read_101 rfl rfl ?_
      refine x_get fX12_13 rfl dX12_read_102 (by with_reducible repeat first | assumption | exact mH_0 ok | exact mH_1 | exact hset_s | refine mH_o (by first | assumption | exact nA ok (by omega) (by omega) (by omega)) (by first | assumption | exact nA ok (by omega) (by omega) (by omega)) ?_ | refine hget_n (by first | assumption | exact Ne.symm (by assumption) | exact nA ok (by omega) (by omega) (by omega)) ?_) (by rfl) ?_
      rw [h25x3 m56]
      refine x_iconst (v := 0) dX12_read_105 rfl ?_
      first | refine x_aload_n 2 dX12_read_106 rfl rfl ?_ | refine x_aload_nN 2 dX12_read_106 rfl rfl ?_
      refine x_get fX12_9 rfl dX12_read_107 (by with_reducible repeat first | assumption | exact mH_0 ok | exact mH_1 | exact hset_s | refine mH_o (by first | assumption | exact nA ok (by omega) (by omega) (by omega)) (by first | assumption | exact nA ok (by omega) (by omega) (by omega)) ?_ | refine hget_n (by first | assumption | exact Ne.symm (by assumption) | exact nA ok (by omega) (by omega) (by omega)) ?_) (by rfl) ?_
      refine x_iconst (v := 0) dX12_read_110 rfl ?_
      refine x_cS0 (As := [.ref _, .int _, .ref _, .int _]) (ct_X12_copies (at0 := 0) (into0 := 0) (by with_reducible repeat first | assumption | exact mH_0 ok | exact mH_1 | exact hset_s | refine mH_o (by first | assumption | exact nA ok (by omega) (by omega) (by omega)) (by first | assumption | exact nA ok (by omega) (by omega) (by omega)) ?_ | refine hget_n (by first | assumption | exact Ne.symm (by assumption) | exact nA ok (by omega) (by omega) (by omega)) ?_) mH_1 m21 (by omega) (by omega) (by omega) (by omega) (aA ok (by omega))) vX12_57 rfl rfl ⟨ble rfl, ble rfl⟩ (ble rfl) dX12_read_111 rfl ?_
      refine x_eqH mH_p1 ?_
      refine x_bipush (v := -3) dX12_read_114 rfl ?_
      refine x_iret rfl dX12_read_116 ?_
      exact hQ _ _ _ _ _ _ DD
    · first | refine x_aload_n 2 dX12_read_56 rfl rfl ?_ | refine x_aload_nN 2 dX12_read_56 rfl rfl ?_
      refine x_get fX12_51 rfl dX12_read_57 (by with_reducible repeat first | assumption | exact mH_0 ok | exact mH_1 | exact hset_s | refine mH_o (by first | assumption | exact nA ok (by omega) (by omega) (by omega)) (by first | assumption | exact nA ok (by omega) (by omega) (by omega)) ?_ | refine hget_n (by first | assumption | exact Ne.symm (by assumption) | exact nA ok (by omega) (by omega) (by omega)) ?_) (by rfl) ?_
      refine x_if_ne 67 dX12_read_60 (by decide) (fun z => by first | exact absurd z (fun z => z hb.1) | exact absurd (fun z => z hb.1) z) (fun _ => ?_)
      refine x_iload_n 0 dX12_read_63 rfl rfl ?_
      refine x_if_ge 117 dX12_read_64 (by decide) (fun z => by first | exact absurd z (hb.2) | exact absurd (hb.2) z) (fun _ => ?_)
      first | refine x_aload_n 2 dX12_read_67 rfl rfl ?_ | refine x_aload_nN 2 dX12_read_67 rfl rfl ?_
      refine x_iconst (v := 0) dX12_read_68 rfl ?_
      refine x_bipush (v := 14) dX12_read_69 rfl ?_
      refine x_iload_n 1 dX12_read_71 rfl rfl ?_
      refine x_cV0 (As := [.int _, .int _, .int _]) (ct_X12_keeps ok (by with_reducible repeat first | assumption | exact mH_0 ok | exact mH_1 | exact hset_s | refine mH_o (by first | assumption | exact nA ok (by omega) (by omega) (by omega)) (by first | assumption | exact nA ok (by omega) (by omega) (by omega)) ?_ | refine hget_n (by first | assumption | exact Ne.symm (by assumption) | exact nA ok (by omega) (by omega) (by omega)) ?_) (by with_reducible repeat first | assumption | exact mH_0 ok | exact mH_1 | exact hset_s | refine mH_o (by first | assumption | exact nA ok (by omega) (by omega) (by omega)) (by first | assumption | exact nA ok (by omega) (by omega) (by omega)) ?_ | refine hget_n (by first | assumption | exact Ne.symm (by assumption) | exact nA ok (by omega) (by omega) (by omega)) ?_) (i := 0) (by omega) _ _) vX12_64 rfl (x_recv (by with_reducible repeat first | assumption | exact mH_0 ok | exact mH_1 | exact hset_s | refine mH_o (by first | assumption | exact nA ok (by omega) (by omega) (by omega)) (by first | assumption | exact nA ok (by omega) (by omega) (by omega)) ?_ | refine hget_n (by first | assumption | exact Ne.symm (by assumption) | exact nA ok (by omega) (by omega) (by omega)) ?_) rfl) rfl ⟨ble rfl, ble rfl⟩ (ble rfl) dX12_read_72 rfl ?_
      first | refine x_aload_n 2 dX12_read_75 rfl rfl ?_ | refine x_aload_nN 2 dX12_read_75 rfl rfl ?_
      refine x_iconst (v := 1) dX12_read_76 rfl ?_
      first | refine x_aload_n 2 dX12_read_77 rfl rfl ?_ | refine x_aload_nN 2 dX12_read_77 rfl rfl ?_
      refine x_get fX12_51 rfl dX12_read_78 (by with_reducible repeat first | assumption | exact mH_0 ok | exact mH_1 | exact hset_s | refine mH_o (by first | assumption | exact nA ok (by omega) (by omega) (by omega)) (by first | assumption | exact nA ok (by omega) (by omega) (by omega)) ?_ | refine hget_n (by first | assumption | exact Ne.symm (by assumption) | exact nA ok (by omega) (by omega) (by omega)) ?_) (by rfl) ?_
      first | refine x_aload_n 2 dX12_read_81 rfl rfl ?_ | refine x_aload_nN 2 dX12_read_81 rfl rfl ?_
      refine x_get fX12_54 rfl dX12_read_82 (by with_reducible repeat first | assumption | exact mH_0 ok | exact mH_1 | exact hset_s | refine mH_o (by first | assumption | exact nA ok (by omega) (by omega) (by omega)) (by first | assumption | exact nA ok (by omega) (by omega) (by omega)) ?_ | refine hget_n (by first | assumption | exact Ne.symm (by assumption) | exact nA ok (by omega) (by omega) (by omega)) ?_) (by rfl) ?_
      refine x_cV0 (As := [.int _, .int _, .int _]) (ct_X12_keeps ok (by with_reducible repeat first | assumption | exact mH_0 ok | exact mH_1 | exact hset_s | refine mH_o (by first | assumption | exact nA ok (by omega) (by omega) (by omega)) (by first | assumption | exact nA ok (by omega) (by omega) (by omega)) ?_ | refine hget_n (by first | assumption | exact Ne.symm (by assumption) | exact nA ok (by omega) (by omega) (by omega)) ?_) (by with_reducible repeat first | assumption | exact mH_0 ok | exact mH_1 | exact hset_s | refine mH_o (by first | assumption | exact nA ok (by omega) (by omega) (by omega)) (by first | assumption | exact nA ok (by omega) (by omega) (by omega)) ?_ | refine hget_n (by first | assumption | exact Ne.symm (by assumption) | exact nA ok (by omega) (by omega) (by omega)) ?_) (i := 1) (by omega) _ _) vX12_64 rfl (x_recv (by with_reducible repeat first | assumption | exact mH_0 ok | exact mH_1 | exact hset_s | refine mH_o (by first | assumption | exact nA ok (by omega) (by omega) (by omega)) (by first | assumption | exact nA ok (by omega) (by omega) (by omega)) ?_ | refine hget_n (by first | assumption | exact Ne.symm (by assumption) | exact nA ok (by omega) (by omega) (by omega)) ?_) rfl) rfl ⟨ble rfl, ble rfl⟩ (ble rfl) dX12_read_85 rfl ?_
      first | refine x_aload_n 2 dX12_read_88 rfl rfl ?_ | refine x_aload_nN 2 dX12_read_88 rfl rfl ?_
      refine x_iconst (v := 2) dX12_read_89 rfl ?_
      first | refine x_aload_n 2 dX12_read_90 rfl rfl ?_ | refine x_aload_nN 2 dX12_read_90 rfl rfl ?_
      refine x_get fX12_61 rfl dX12_read_91 (by with_reducible repeat first | assumption | exact mH_0 ok | exact mH_1 | exact hset_s | refine mH_o (by first | assumption | exact nA ok (by omega) (by omega) (by omega)) (by first | assumption | exact nA ok (by omega) (by omega) (by omega)) ?_ | refine hget_n (by first | assumption | exact Ne.symm (by assumption) | exact nA ok (by omega) (by omega) (by omega)) ?_) (by rfl) ?_
      first | refine x_aload_n 2 dX12_read_94 rfl rfl ?_ | refine x_aload_nN 2 dX12_read_94 rfl rfl ?_
      refine x_get fX12_68 rfl dX12_read_95 (by with_reducible repeat first | assumption | exact mH_0 ok | exact mH_1 | exact hset_s | refine mH_o (by first | assumption | exact nA ok (by omega) (by omega) (by omega)) (by first | assumption | exact nA ok (by omega) (by omega) (by omega)) ?_ | refine hget_n (by first | assumption | exact Ne.symm (by assumption) | exact nA ok (by omega) (by omega) (by omega)) ?_) (by rfl) ?_
      refine x_cV0 (As := [.int _, .int _, .int _]) (ct_X12_keeps ok (by with_reducible repeat first | assumption | exact mH_0 ok | exact mH_1 | exact hset_s | refine mH_o (by first | assumption | exact nA ok (by omega) (by omega) (by omega)) (by first | assumption | exact nA ok (by omega) (by omega) (by omega)) ?_ | refine hget_n (by first | assumption | exact Ne.symm (by assumption) | exact nA ok (by omega) (by omega) (by omega)) ?_) (by with_reducible repeat first | assumption | exact mH_0 ok | exact mH_1 | exact hset_s | refine mH_o (by first | assumption | exact nA ok (by omega) (by omega) (by omega)) (by first | assumption | exact nA ok (by omega) (by omega) (by omega)) ?_ | refine hget_n (by first | assumption | exact Ne.symm (by assumption) | exact nA ok (by omega) (by omega) (by omega)) ?_) (i := 2) (by omega) _ _) vX12_64 rfl (x_recv (by with_reducible repeat first | assumption | exact mH_0 ok | exact mH_1 | exact hset_s | refine mH_o (by first | assumption | exact nA ok (by omega) (by omega) (by omega)) (by first | assumption | exact nA ok (by omega) (by omega) (by omega)) ?_ | refine hget_n (by first | assumption | exact Ne.symm (by assumption) | exact nA ok (by omega) (by omega) (by omega)) ?_) rfl) rfl ⟨ble rfl, ble rfl⟩ (ble rfl) dX12_read_98 rfl ?_
      first | refine x_aload_n 2 dX12_read_101 rfl rfl ?_ | refine x_aload_nN 2 dX12_read_101 rfl rfl ?_
      refine x_get fX12_13 rfl dX12_read_102 (by with_reducible repeat first | assumption | exact mH_0 ok | exact mH_1 | exact hset_s | refine mH_o (by first | assumption | exact nA ok (by omega) (by omega) (by omega)) (by first | assumption | exact nA ok (by omega) (by omega) (by omega)) ?_ | refine hget_n (by first | assumption | exact Ne.symm (by assumption) | exact nA ok (by omega) (by omega) (by omega)) ?_) (by rfl) ?_
      rw [h25x3 m56]
      refine x_iconst (v := 0) dX12_read_105 rfl ?_
      first | refine x_aload_n 2 dX12_read_106 rfl rfl ?_ | refine x_aload_nN 2 dX12_read_106 rfl rfl ?_
      refine x_get fX12_9 rfl dX12_read_107 (by with_reducible repeat first | assumption | exact mH_0 ok | exact mH_1 | exact hset_s | refine mH_o (by first | assumption | exact nA ok (by omega) (by omega) (by omega)) (by first | assumption | exact nA ok (by omega) (by omega) (by omega)) ?_ | refine hget_n (by first | assumption | exact Ne.symm (by assumption) | exact nA ok (by omega) (by omega) (by omega)) ?_) (by rfl) ?_
      refine x_iconst (v := 0) dX12_read_110 rfl ?_
      refine x_cS0 (As := [.ref _, .int _, .ref _, .int _]) (ct_X12_copies (at0 := 0) (into0 := 0) (by with_reducible repeat first | assumption | exact mH_0 ok | exact mH_1 | exact hset_s | refine mH_o (by first | assumption | exact nA ok (by omega) (by omega) (by omega)) (by first | assumption | exact nA ok (by omega) (by omega) (by omega)) ?_ | refine hget_n (by first | assumption | exact Ne.symm (by assumption) | exact nA ok (by omega) (by omega) (by omega)) ?_) mH_1 m21 (by omega) (by omega) (by omega) (by omega) (aA ok (by omega))) vX12_57 rfl rfl ⟨ble rfl, ble rfl⟩ (ble rfl) dX12_read_111 rfl ?_
      refine x_eqH mH_p1 ?_
      refine x_bipush (v := -3) dX12_read_114 rfl ?_
      refine x_iret rfl dX12_read_116 ?_
      exact hQ _ _ _ _ _ _ DD
  | j + 1, c :: r, ci, N, wha, its, hci, hd, ⟨hv, ns, np, no, v, N1, A, hp, h0, hr⟩ => by
    have hlt : ci < C0.length := by have e := congrArg List.length hd; rw [List.length_drop] at e; simp only [List.length_cons] at e; omega
    have hget : C0[ci]? = some c := by have e := congrArg (fun z => z[0]?) hd; simpa using e
    have hd2 : C0.drop (ci + 1) = r := by rw [← List.tail_drop, hd]; rfl
    have en := En ci hlt c hget
    refine x_iload_n 0 dX12_read_42 rfl rfl ?_
    first | refine x_aload_n 1 dX12_read_43 rfl rfl ?_ | refine x_aload_nN 1 dX12_read_43 rfl rfl ?_
    refine x_get fX12_260 rfl dX12_read_44 (by with_reducible repeat first | assumption | exact mH_0 ok | exact mH_1 | exact hset_s | refine mH_o (by first | assumption | exact nA ok (by omega) (by omega) (by omega)) (by first | assumption | exact nA ok (by omega) (by omega) (by omega)) ?_ | refine hget_n (by first | assumption | exact Ne.symm (by assumption) | exact nA ok (by omega) (by omega) (by omega)) ?_) (by rfl) ?_
    refine x_icmp_ge 123 dX12_read_47 (by decide) (fun z => by first | exact absurd z (nI_ge hlt (by omega)) | exact absurd (nI_ge hlt (by omega)) z) (fun _ => ?_)
    first | refine x_aload_n 1 dX12_read_50 rfl rfl ?_ | refine x_aload_nN 1 dX12_read_50 rfl rfl ?_
    refine x_iload_n 0 dX12_read_51 rfl rfl ?_
    refine x_callW (mc1 := 0) (ms1 := 0) (As := [.int _]) (ct_does ok A hkinds hnumbers (by omega) (c := c) hv en.1 en.2.1 en.2.2) vX12_273 rfl (x_recv (by with_reducible repeat first | assumption | exact mH_0 ok | exact mH_1 | exact hset_s | refine mH_o (by first | assumption | exact nA ok (by omega) (by omega) (by omega)) (by first | assumption | exact nA ok (by omega) (by omega) (by omega)) ?_ | refine hget_n (by first | assumption | exact Ne.symm (by assumption) | exact nA ok (by omega) (by omega) (by omega)) ?_) rfl) rfl ⟨ble rfl, ble rfl⟩ (ble rfl) dX12_read_52 rfl ⟨by omega, by omega⟩ (fun w h1 q1 => ?_)
    obtain ⟨r1, why1, wha1, beh1, its1, N2, rfl, rfl, DD⟩ := q1
    rw [hp] at DD
    obtain ⟨rfl, rfl, rfl, rfl⟩ := DD
    refine x_istore_n (L' := [(2, _), (1, _), (0, _)]) dX12_read_55 rfl (ble rfl) rfl ?_
    first | refine x_aload_n 2 dX12_read_56 rfl rfl ?_ | refine x_aload_nN 2 dX12_read_56 rfl rfl ?_
    refine x_get fX12_51 rfl dX12_read_57 (by with_reducible repeat first | assumption | exact mH_0 ok | exact mH_1 | exact hset_s | refine mH_o (by first | assumption | exact nA ok (by omega) (by omega) (by omega)) (by first | assumption | exact nA ok (by omega) (by omega) (by omega)) ?_ | refine hget_n (by first | assumption | exact Ne.symm (by assumption) | exact nA ok (by omega) (by omega) (by omega)) ?_) (by rfl) ?_
    refine x_if_ne 67 dX12_read_60 (by decide) (fun z => by first | exact absurd z (fun z => z rfl) | exact absurd (fun z => z rfl) z) (fun _ => ?_)
    refine x_iload_n 0 dX12_read_63 rfl rfl ?_
    refine x_if_ge 117 dX12_read_64 (by decide) (fun _ => ?_) (fun z => by first | exact absurd (h0) z | exact absurd z (h0))
    refine x_iinc (L' := [(1, _), (2, _), (0, _)]) (j := 1) (_ + 1) dX12_read_117 rfl rfl (ble rfl) rfl ?_
    refine x_goto 42 dX12_read_120 (by decide) ?_
    refine x_locs (L' := [(1, _), (0, _)]) [0, 2] rfl ?_
    rw [nI_1]
    exact mr_n ok hbefore hhistory hreasons hdetails hkinds hnumbers hk h10 En hQ j r (ci + 1) _ _ _ (by omega) hd2 hr
