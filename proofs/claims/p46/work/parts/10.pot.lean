def thickK (k : Nat) (g x : Int32) : Int32 := mx (g - mx (x - kSm k) 0 / 6) 0
def crackK (k : Nat) (g : Int32) : Int32 := kSm k + 6 * g
def ringK (k : Nat) (g x t : Int32) : Int32 := if thickK k g x = 0 then 0 else if x < kSm k then kBare k + kThk k * thickK k g x - kHalf k * t / 2 else kBare k + kThk k * thickK k g x - kHalf k * t / 2 + 2
def soldK (o : Int32) : Int32 := if o = -4 then 0 else 1
def newK (m : Int32) : Int32 := if m = 0 then 1 else 0
def smoothK (k : Nat) (b : Int32) : Int32 := if b < kSm k then 0 else 1
def crackedK (k : Nat) (g b : Int32) : Int32 := if b < crackK k g then 0 else 1
def leftK (k : Nat) (t r : Int32) : Int32 := if t = 0 then 0 else t * kMeal k - r
set_option maxRecDepth 100000 in
set_option maxHeartbeats 4000000 in
theorem ct_X4_isSold {l : Launch} {G : Gl} {h : Hp} {n sh g b t r m o : Int32} {k p : Nat} (hp : h p = some (ePot G n k sh g b t r m o)) : CtR l G mX4_isSold 1 [.ref p] h (some (.int (soldK o))) (h) := by
  refine Ct.of (L := [(0, _)]) (by decide) (ble rfl) rfl ?_
  first | refine x_aload_n 0 dX4_isSold_0 rfl rfl ?_ | refine x_aload_nN 0 dX4_isSold_0 rfl rfl ?_
  refine x_get fX4_39 rfl dX4_isSold_1 (by with_reducible repeat first | assumption | exact hset_s | refine hget_n (by first | assumption | exact Ne.symm (by assumption) | exact nA (by assumption) (by omega) (by omega) (by omega)) ?_) (by rfl) ?_
  refine x_bipush (v := -4) dX4_isSold_4 rfl ?_
  refine x_icmp_eq 13 dX4_isSold_6 (by decide) (fun c6 => ?_) (fun c6 => ?_)
  · refine x_iconst (v := 0) dX4_isSold_13 rfl ?_
    refine x_zret rfl (by first | rfl | (split <;> rfl) | (unfold b2i; split <;> rfl)) dX4_isSold_14 ?_
    refine ⟨congrArg (fun z => some (Value.int z)) ?_, rfl⟩
    unfold soldK
    (repeat' split) <;> first | rfl | contradiction | (simp_all; done) | (exfalso; simp only [Int32.lt_iff_toInt_lt, Int32.le_iff_toInt_le] at *; omega)
  · refine x_iconst (v := 1) dX4_isSold_9 rfl ?_
    refine x_goto 14 dX4_isSold_10 (by decide) ?_
    refine x_zret rfl (by first | rfl | (split <;> rfl) | (unfold b2i; split <;> rfl)) dX4_isSold_14 ?_
    refine ⟨congrArg (fun z => some (Value.int z)) ?_, rfl⟩
    unfold soldK
    (repeat' split) <;> first | rfl | contradiction | (simp_all; done) | (exfalso; simp only [Int32.lt_iff_toInt_lt, Int32.le_iff_toInt_le] at *; omega)
set_option maxRecDepth 100000 in
set_option maxHeartbeats 4000000 in
theorem ct_X4_isNew {l : Launch} {G : Gl} {h : Hp} {n sh g b t r m o : Int32} {k p : Nat} (hp : h p = some (ePot G n k sh g b t r m o)) : CtR l G mX4_isNew 1 [.ref p] h (some (.int (newK m))) (h) := by
  refine Ct.of (L := [(0, _)]) (by decide) (ble rfl) rfl ?_
  first | refine x_aload_n 0 dX4_isNew_0 rfl rfl ?_ | refine x_aload_nN 0 dX4_isNew_0 rfl rfl ?_
  refine x_get fX4_36 rfl dX4_isNew_1 (by with_reducible repeat first | assumption | exact hset_s | refine hget_n (by first | assumption | exact Ne.symm (by assumption) | exact nA (by assumption) (by omega) (by omega) (by omega)) ?_) (by rfl) ?_
  refine x_if_ne 11 dX4_isNew_4 (by decide) (fun c4 => ?_) (fun c4 => ?_)
  · refine x_iconst (v := 0) dX4_isNew_11 rfl ?_
    refine x_zret rfl (by first | rfl | (split <;> rfl) | (unfold b2i; split <;> rfl)) dX4_isNew_12 ?_
    refine ⟨congrArg (fun z => some (Value.int z)) ?_, rfl⟩
    unfold newK
    (repeat' split) <;> first | rfl | contradiction | (simp_all; done) | (exfalso; simp only [Int32.lt_iff_toInt_lt, Int32.le_iff_toInt_le] at *; omega)
  · refine x_iconst (v := 1) dX4_isNew_7 rfl ?_
    refine x_goto 12 dX4_isNew_8 (by decide) ?_
    refine x_zret rfl (by first | rfl | (split <;> rfl) | (unfold b2i; split <;> rfl)) dX4_isNew_12 ?_
    refine ⟨congrArg (fun z => some (Value.int z)) ?_, rfl⟩
    unfold newK
    (repeat' split) <;> first | rfl | contradiction | (simp_all; done) | (exfalso; simp only [Int32.lt_iff_toInt_lt, Int32.le_iff_toInt_le] at *; omega)
set_option maxRecDepth 100000 in
set_option maxHeartbeats 4000000 in
theorem ct_X4_crackingBlows {l : Launch} {G : Gl} {h : Hp} {n sh g b t r m o : Int32} {k p : Nat} (hp : h p = some (ePot G n k sh g b t r m o)) (hk : k < 3) : CtR l G mX4_crackingBlows 1 [.ref p] h (some (.int (crackK k g))) (h) := by
  refine Ct.of (L := [(0, _)]) (by decide) (ble rfl) rfl ?_
  first | refine x_aload_n 0 dX4_crackingBlows_0 rfl rfl ?_ | refine x_aload_nN 0 dX4_crackingBlows_0 rfl rfl ?_
  refine x_get fX4_15 rfl dX4_crackingBlows_1 (by with_reducible repeat first | assumption | exact hset_s | refine hget_n (by first | assumption | exact Ne.symm (by assumption) | exact nA (by assumption) (by omega) (by omega) (by omega)) ?_) (by rfl) ?_
  refine x_getO (zK_smoothBlows (by assumption)) rfl oX4_45 dX4_crackingBlows_4 ?_
  refine x_bipush (v := 6) dX4_crackingBlows_7 rfl ?_
  first | refine x_aload_n 0 dX4_crackingBlows_9 rfl rfl ?_ | refine x_aload_nN 0 dX4_crackingBlows_9 rfl rfl ?_
  refine x_get fX4_24 rfl dX4_crackingBlows_10 (by with_reducible repeat first | assumption | exact hset_s | refine hget_n (by first | assumption | exact Ne.symm (by assumption) | exact nA (by assumption) (by omega) (by omega) (by omega)) ?_) (by rfl) ?_
  refine x_imul dX4_crackingBlows_13 ?_
  refine x_iadd dX4_crackingBlows_14 ?_
  refine x_iret rfl dX4_crackingBlows_15 ?_
  exact ⟨rfl, rfl⟩
set_option maxRecDepth 100000 in
set_option maxHeartbeats 4000000 in
theorem ct_X4_blowsMissing {l : Launch} {G : Gl} {h : Hp} {n sh g b t r m o : Int32} {k p : Nat} (hp : h p = some (ePot G n k sh g b t r m o)) (w : Int32) : CtR l G mX4_blowsMissing 1 [.ref p, .int w] h (some (.int (mx (w - b) 0))) (h) := by
  refine Ct.of (L := [(0, _), (1, _)]) (by decide) (ble rfl) rfl ?_
  refine x_iload_n 1 dX4_blowsMissing_0 rfl rfl ?_
  first | refine x_aload_n 0 dX4_blowsMissing_1 rfl rfl ?_ | refine x_aload_nN 0 dX4_blowsMissing_1 rfl rfl ?_
  refine x_get fX4_27 rfl dX4_blowsMissing_2 (by with_reducible repeat first | assumption | exact hset_s | refine hget_n (by first | assumption | exact Ne.symm (by assumption) | exact nA (by assumption) (by omega) (by omega) (by omega)) ?_) (by rfl) ?_
  refine x_isub dX4_blowsMissing_5 ?_
  refine x_iconst (v := 0) dX4_blowsMissing_6 rfl ?_
  refine x_mmax rfl wX4_48 wMmax2 wMath3 wMmax4 (ble rfl) (ble rfl) dX4_blowsMissing_7 ?_
  refine x_iret rfl dX4_blowsMissing_10 ?_
  exact ⟨rfl, rfl⟩
set_option maxRecDepth 100000 in
set_option maxHeartbeats 4000000 in
theorem ct_X4_isSmooth {l : Launch} {G : Gl} {h : Hp} {n sh g b t r m o : Int32} {k p : Nat} (hp : h p = some (ePot G n k sh g b t r m o)) (hk : k < 3) : CtR l G mX4_isSmooth 1 [.ref p] h (some (.int (smoothK k b))) (h) := by
  refine Ct.of (L := [(0, _)]) (by decide) (ble rfl) rfl ?_
  first | refine x_aload_n 0 dX4_isSmooth_0 rfl rfl ?_ | refine x_aload_nN 0 dX4_isSmooth_0 rfl rfl ?_
  refine x_get fX4_27 rfl dX4_isSmooth_1 (by with_reducible repeat first | assumption | exact hset_s | refine hget_n (by first | assumption | exact Ne.symm (by assumption) | exact nA (by assumption) (by omega) (by omega) (by omega)) ?_) (by rfl) ?_
  first | refine x_aload_n 0 dX4_isSmooth_4 rfl rfl ?_ | refine x_aload_nN 0 dX4_isSmooth_4 rfl rfl ?_
  refine x_get fX4_15 rfl dX4_isSmooth_5 (by with_reducible repeat first | assumption | exact hset_s | refine hget_n (by first | assumption | exact Ne.symm (by assumption) | exact nA (by assumption) (by omega) (by omega) (by omega)) ?_) (by rfl) ?_
  refine x_getO (zK_smoothBlows (by assumption)) rfl oX4_45 dX4_isSmooth_8 ?_
  refine x_icmp_lt 18 dX4_isSmooth_11 (by decide) (fun c11 => ?_) (fun c11 => ?_)
  · refine x_iconst (v := 0) dX4_isSmooth_18 rfl ?_
    refine x_zret rfl (by first | rfl | (split <;> rfl) | (unfold b2i; split <;> rfl)) dX4_isSmooth_19 ?_
    refine ⟨congrArg (fun z => some (Value.int z)) ?_, rfl⟩
    unfold smoothK
    (repeat' split) <;> first | rfl | contradiction | (simp_all; done) | (exfalso; simp only [Int32.lt_iff_toInt_lt, Int32.le_iff_toInt_le] at *; omega)
  · refine x_iconst (v := 1) dX4_isSmooth_14 rfl ?_
    refine x_goto 19 dX4_isSmooth_15 (by decide) ?_
    refine x_zret rfl (by first | rfl | (split <;> rfl) | (unfold b2i; split <;> rfl)) dX4_isSmooth_19 ?_
    refine ⟨congrArg (fun z => some (Value.int z)) ?_, rfl⟩
    unfold smoothK
    (repeat' split) <;> first | rfl | contradiction | (simp_all; done) | (exfalso; simp only [Int32.lt_iff_toInt_lt, Int32.le_iff_toInt_le] at *; omega)
set_option maxRecDepth 100000 in
set_option maxHeartbeats 4000000 in
theorem ct_X4_isCracked {l : Launch} {G : Gl} {h : Hp} {n sh g b t r m o : Int32} {k p : Nat} (hp : h p = some (ePot G n k sh g b t r m o)) (hk : k < 3) : CtR l G mX4_isCracked 2 [.ref p] h (some (.int (crackedK k g b))) (h) := by
  refine Ct.of (L := [(0, _)]) (by decide) (ble rfl) rfl ?_
  first | refine x_aload_n 0 dX4_isCracked_0 rfl rfl ?_ | refine x_aload_nN 0 dX4_isCracked_0 rfl rfl ?_
  refine x_get fX4_27 rfl dX4_isCracked_1 (by with_reducible repeat first | assumption | exact hset_s | refine hget_n (by first | assumption | exact Ne.symm (by assumption) | exact nA (by assumption) (by omega) (by omega) (by omega)) ?_) (by rfl) ?_
  first | refine x_aload_n 0 dX4_isCracked_4 rfl rfl ?_ | refine x_aload_nN 0 dX4_isCracked_4 rfl rfl ?_
  refine x_cV1 (As := []) (ct_X4_crackingBlows (by with_reducible repeat first | assumption | exact hset_s | refine hget_n (by first | assumption | exact Ne.symm (by assumption) | exact nA (by assumption) (by omega) (by omega) (by omega)) ?_) (by assumption)) vX4_54 rfl (x_recv (by with_reducible repeat first | assumption | exact hset_s | refine hget_n (by first | assumption | exact Ne.symm (by assumption) | exact nA (by assumption) (by omega) (by omega) (by omega)) ?_) rfl) rfl ⟨ble rfl, ble rfl⟩ (ble rfl) dX4_isCracked_5 rfl ?_
  refine x_icmp_lt 15 dX4_isCracked_8 (by decide) (fun c8 => ?_) (fun c8 => ?_)
  · refine x_iconst (v := 0) dX4_isCracked_15 rfl ?_
    refine x_zret rfl (by first | rfl | (split <;> rfl) | (unfold b2i; split <;> rfl)) dX4_isCracked_16 ?_
    refine ⟨congrArg (fun z => some (Value.int z)) ?_, rfl⟩
    unfold crackedK
    (repeat' split) <;> first | rfl | contradiction | (simp_all; done) | (exfalso; simp only [Int32.lt_iff_toInt_lt, Int32.le_iff_toInt_le] at *; omega)
  · refine x_iconst (v := 1) dX4_isCracked_11 rfl ?_
    refine x_goto 16 dX4_isCracked_12 (by decide) ?_
    refine x_zret rfl (by first | rfl | (split <;> rfl) | (unfold b2i; split <;> rfl)) dX4_isCracked_16 ?_
    refine ⟨congrArg (fun z => some (Value.int z)) ?_, rfl⟩
    unfold crackedK
    (repeat' split) <;> first | rfl | contradiction | (simp_all; done) | (exfalso; simp only [Int32.lt_iff_toInt_lt, Int32.le_iff_toInt_le] at *; omega)
set_option maxRecDepth 100000 in
set_option maxHeartbeats 4000000 in
theorem ct_X4_thicknessWith {l : Launch} {G : Gl} {h : Hp} {n sh g b t r m o : Int32} {k p : Nat} (hp : h p = some (ePot G n k sh g b t r m o)) (hk : k < 3) (x : Int32) : CtR l G mX4_thicknessWith 1 [.ref p, .int x] h (some (.int (thickK k g x))) (h) := by
  refine Ct.of (L := [(0, _), (1, _)]) (by decide) (ble rfl) rfl ?_
  refine x_iload_n 1 dX4_thicknessWith_0 rfl rfl ?_
  first | refine x_aload_n 0 dX4_thicknessWith_1 rfl rfl ?_ | refine x_aload_nN 0 dX4_thicknessWith_1 rfl rfl ?_
  refine x_get fX4_15 rfl dX4_thicknessWith_2 (by with_reducible repeat first | assumption | exact hset_s | refine hget_n (by first | assumption | exact Ne.symm (by assumption) | exact nA (by assumption) (by omega) (by omega) (by omega)) ?_) (by rfl) ?_
  refine x_getO (zK_smoothBlows (by assumption)) rfl oX4_45 dX4_thicknessWith_5 ?_
  refine x_isub dX4_thicknessWith_8 ?_
  refine x_iconst (v := 0) dX4_thicknessWith_9 rfl ?_
  refine x_mmax rfl wX4_48 wMmax2 wMath3 wMmax4 (ble rfl) (ble rfl) dX4_thicknessWith_10 ?_
  refine x_istore_n (L' := [(2, _), (0, _), (1, _)]) dX4_thicknessWith_13 rfl (ble rfl) rfl ?_
  first | refine x_aload_n 1 dX4_thicknessWith_14 rfl rfl ?_ | refine x_aload_nN 1 dX4_thicknessWith_14 rfl rfl ?_
  refine x_get fX4_24 rfl dX4_thicknessWith_15 (by with_reducible repeat first | assumption | exact hset_s | refine hget_n (by first | assumption | exact Ne.symm (by assumption) | exact nA (by assumption) (by omega) (by omega) (by omega)) ?_) (by rfl) ?_
  refine x_iload_n 0 dX4_thicknessWith_18 rfl rfl ?_
  refine x_bipush (v := 6) dX4_thicknessWith_19 rfl ?_
  refine x_idiv dX4_thicknessWith_21 (by first | decide | assumption) ?_
  refine x_isub dX4_thicknessWith_22 ?_
  refine x_iconst (v := 0) dX4_thicknessWith_23 rfl ?_
  refine x_mmax rfl wX4_48 wMmax2 wMath3 wMmax4 (ble rfl) (ble rfl) dX4_thicknessWith_24 ?_
  refine x_iret rfl dX4_thicknessWith_27 ?_
  exact ⟨rfl, rfl⟩
set_option maxRecDepth 100000 in
set_option maxHeartbeats 4000000 in
theorem ct_X4_thickness {l : Launch} {G : Gl} {h : Hp} {n sh g b t r m o : Int32} {k p : Nat} (hp : h p = some (ePot G n k sh g b t r m o)) (hk : k < 3) : CtR l G mX4_thickness 2 [.ref p] h (some (.int (thickK k g b))) (h) := by
  refine Ct.of (L := [(0, _)]) (by decide) (ble rfl) rfl ?_
  first | refine x_aload_n 0 dX4_thickness_0 rfl rfl ?_ | refine x_aload_nN 0 dX4_thickness_0 rfl rfl ?_
  first | refine x_aload_n 0 dX4_thickness_1 rfl rfl ?_ | refine x_aload_nN 0 dX4_thickness_1 rfl rfl ?_
  refine x_get fX4_27 rfl dX4_thickness_2 (by with_reducible repeat first | assumption | exact hset_s | refine hget_n (by first | assumption | exact Ne.symm (by assumption) | exact nA (by assumption) (by omega) (by omega) (by omega)) ?_) (by rfl) ?_
  refine x_cV1 (As := [.int _]) (ct_X4_thicknessWith (by with_reducible repeat first | assumption | exact hset_s | refine hget_n (by first | assumption | exact Ne.symm (by assumption) | exact nA (by assumption) (by omega) (by omega) (by omega)) ?_) (by assumption) _) vX4_58 rfl (x_recv (by with_reducible repeat first | assumption | exact hset_s | refine hget_n (by first | assumption | exact Ne.symm (by assumption) | exact nA (by assumption) (by omega) (by omega) (by omega)) ?_) rfl) rfl ⟨ble rfl, ble rfl⟩ (ble rfl) dX4_thickness_5 rfl ?_
  refine x_iret rfl dX4_thickness_8 ?_
  exact ⟨rfl, rfl⟩
set_option maxRecDepth 100000 in
set_option maxHeartbeats 4000000 in
theorem ct_X4_ringWith {l : Launch} {G : Gl} {h : Hp} {n sh g b t r m o : Int32} {k p : Nat} (hp : h p = some (ePot G n k sh g b t r m o)) (hk : k < 3) (x y : Int32) : CtR l G mX4_ringWith 2 [.ref p, .int x, .int y] h (some (.int (ringK k g x y))) (h) := by
  refine Ct.of (L := [(0, _), (1, _), (2, _)]) (by decide) (ble rfl) rfl ?_
  first | refine x_aload_n 0 dX4_ringWith_0 rfl rfl ?_ | refine x_aload_nN 0 dX4_ringWith_0 rfl rfl ?_
  refine x_iload_n 1 dX4_ringWith_1 rfl rfl ?_
  refine x_cV1 (As := [.int _]) (ct_X4_thicknessWith (by with_reducible repeat first | assumption | exact hset_s | refine hget_n (by first | assumption | exact Ne.symm (by assumption) | exact nA (by assumption) (by omega) (by omega) (by omega)) ?_) (by assumption) _) vX4_58 rfl (x_recv (by with_reducible repeat first | assumption | exact hset_s | refine hget_n (by first | assumption | exact Ne.symm (by assumption) | exact nA (by assumption) (by omega) (by omega) (by omega)) ?_) rfl) rfl ⟨ble rfl, ble rfl⟩ (ble rfl) dX4_ringWith_2 rfl ?_
  refine x_istore_n (L' := [(3, _), (0, _), (1, _), (2, _)]) dX4_ringWith_5 rfl (ble rfl) rfl ?_
  refine x_iload_n 0 dX4_ringWith_6 rfl rfl ?_
  refine x_if_ne 12 dX4_ringWith_7 (by decide) (fun c7 => ?_) (fun c7 => ?_)
  · first | refine x_aload_n 1 dX4_ringWith_12 rfl rfl ?_ | refine x_aload_nN 1 dX4_ringWith_12 rfl rfl ?_
    refine x_get fX4_15 rfl dX4_ringWith_13 (by with_reducible repeat first | assumption | exact hset_s | refine hget_n (by first | assumption | exact Ne.symm (by assumption) | exact nA (by assumption) (by omega) (by omega) (by omega)) ?_) (by rfl) ?_
    refine x_getO (zK_bareSound (by assumption)) rfl oX4_65 dX4_ringWith_16 ?_
    first | refine x_aload_n 1 dX4_ringWith_19 rfl rfl ?_ | refine x_aload_nN 1 dX4_ringWith_19 rfl rfl ?_
    refine x_get fX4_15 rfl dX4_ringWith_20 (by with_reducible repeat first | assumption | exact hset_s | refine hget_n (by first | assumption | exact Ne.symm (by assumption) | exact nA (by assumption) (by omega) (by omega) (by omega)) ?_) (by rfl) ?_
    refine x_getO (zK_soundByThickness (by assumption)) rfl oX4_68 dX4_ringWith_23 ?_
    refine x_iload_n 0 dX4_ringWith_26 rfl rfl ?_
    refine x_imul dX4_ringWith_27 ?_
    refine x_iadd dX4_ringWith_28 ?_
    first | refine x_aload_n 1 dX4_ringWith_29 rfl rfl ?_ | refine x_aload_nN 1 dX4_ringWith_29 rfl rfl ?_
    refine x_get fX4_15 rfl dX4_ringWith_30 (by with_reducible repeat first | assumption | exact hset_s | refine hget_n (by first | assumption | exact Ne.symm (by assumption) | exact nA (by assumption) (by omega) (by omega) (by omega)) ?_) (by rfl) ?_
    refine x_getO (zK_halvesByTin (by assumption)) rfl oX4_71 dX4_ringWith_33 ?_
    refine x_iload_n 3 dX4_ringWith_36 rfl rfl ?_
    refine x_imul dX4_ringWith_37 ?_
    refine x_iconst (v := 2) dX4_ringWith_38 rfl ?_
    refine x_idiv dX4_ringWith_39 (by first | decide | assumption) ?_
    refine x_isub dX4_ringWith_40 ?_
    refine x_istore (L' := [(4, _), (3, _), (0, _), (1, _), (2, _)]) dX4_ringWith_41 (ble rfl) rfl ?_
    refine x_iload_n 3 dX4_ringWith_43 rfl rfl ?_
    first | refine x_aload_n 2 dX4_ringWith_44 rfl rfl ?_ | refine x_aload_nN 2 dX4_ringWith_44 rfl rfl ?_
    refine x_get fX4_15 rfl dX4_ringWith_45 (by with_reducible repeat first | assumption | exact hset_s | refine hget_n (by first | assumption | exact Ne.symm (by assumption) | exact nA (by assumption) (by omega) (by omega) (by omega)) ?_) (by rfl) ?_
    refine x_getO (zK_smoothBlows (by assumption)) rfl oX4_45 dX4_ringWith_48 ?_
    refine x_icmp_lt 61 dX4_ringWith_51 (by decide) (fun c51 => ?_) (fun c51 => ?_)
    · refine x_iload 0 dX4_ringWith_61 rfl ?_
      refine x_iret rfl dX4_ringWith_63 ?_
      refine ⟨congrArg (fun z => some (Value.int z)) ?_, rfl⟩
      unfold ringK
      (repeat' split) <;> first | rfl | contradiction | (simp_all; done) | (exfalso; simp only [Int32.lt_iff_toInt_lt, Int32.le_iff_toInt_le] at *; omega)
    · refine x_iload 0 dX4_ringWith_54 rfl ?_
      refine x_iconst (v := 2) dX4_ringWith_56 rfl ?_
      refine x_iadd dX4_ringWith_57 ?_
      refine x_goto 63 dX4_ringWith_58 (by decide) ?_
      refine x_iret rfl dX4_ringWith_63 ?_
      refine ⟨congrArg (fun z => some (Value.int z)) ?_, rfl⟩
      unfold ringK
      (repeat' split) <;> first | rfl | contradiction | (simp_all; done) | (exfalso; simp only [Int32.lt_iff_toInt_lt, Int32.le_iff_toInt_le] at *; omega)
  · refine x_iconst (v := 0) dX4_ringWith_10 rfl ?_
    refine x_iret rfl dX4_ringWith_11 ?_
    refine ⟨congrArg (fun z => some (Value.int z)) ?_, rfl⟩
    unfold ringK
    (repeat' split) <;> first | rfl | contradiction | (simp_all; done) | (exfalso; simp only [Int32.lt_iff_toInt_lt, Int32.le_iff_toInt_le] at *; omega)
set_option maxRecDepth 100000 in
set_option maxHeartbeats 4000000 in
theorem ct_X4_ring {l : Launch} {G : Gl} {h : Hp} {n sh g b t r m o : Int32} {k p : Nat} (hp : h p = some (ePot G n k sh g b t r m o)) (hk : k < 3) : CtR l G mX4_ring 3 [.ref p] h (some (.int (ringK k g b t))) (h) := by
  refine Ct.of (L := [(0, _)]) (by decide) (ble rfl) rfl ?_
  first | refine x_aload_n 0 dX4_ring_0 rfl rfl ?_ | refine x_aload_nN 0 dX4_ring_0 rfl rfl ?_
  first | refine x_aload_n 0 dX4_ring_1 rfl rfl ?_ | refine x_aload_nN 0 dX4_ring_1 rfl rfl ?_
  refine x_get fX4_27 rfl dX4_ring_2 (by with_reducible repeat first | assumption | exact hset_s | refine hget_n (by first | assumption | exact Ne.symm (by assumption) | exact nA (by assumption) (by omega) (by omega) (by omega)) ?_) (by rfl) ?_
  first | refine x_aload_n 0 dX4_ring_5 rfl rfl ?_ | refine x_aload_nN 0 dX4_ring_5 rfl rfl ?_
  refine x_get fX4_30 rfl dX4_ring_6 (by with_reducible repeat first | assumption | exact hset_s | refine hget_n (by first | assumption | exact Ne.symm (by assumption) | exact nA (by assumption) (by omega) (by omega) (by omega)) ?_) (by rfl) ?_
  refine x_cV1 (As := [.int _, .int _]) (ct_X4_ringWith (by with_reducible repeat first | assumption | exact hset_s | refine hget_n (by first | assumption | exact Ne.symm (by assumption) | exact nA (by assumption) (by omega) (by omega) (by omega)) ?_) (by assumption) _ _) vX4_62 rfl (x_recv (by with_reducible repeat first | assumption | exact hset_s | refine hget_n (by first | assumption | exact Ne.symm (by assumption) | exact nA (by assumption) (by omega) (by omega) (by omega)) ?_) rfl) rfl ⟨ble rfl, ble rfl⟩ (ble rfl) dX4_ring_9 rfl ?_
  refine x_iret rfl dX4_ring_12 ?_
  exact ⟨rfl, rfl⟩
def payK (m p2 : Int32) : Int32 := if m = 0 then p2 else p2 / 2
def tinK (m t2 : Int32) : Int32 := if m = 0 then mx t2 3 else t2
set_option maxRecDepth 100000 in
set_option maxHeartbeats 4000000 in
theorem ct_X3_isFilled {l : Launch} {G : Gl} {h : Hp} {t2 p2 po pd : Int32} {k2 q : Nat} (hq : h q = some (eOrd G k2 t2 p2 po pd)) : CtR l G mX3_isFilled 1 [.ref q] h (some (.int (soldK po))) (h) := by
  refine Ct.of (L := [(0, _)]) (by decide) (ble rfl) rfl ?_
  first | refine x_aload_n 0 dX3_isFilled_0 rfl rfl ?_ | refine x_aload_nN 0 dX3_isFilled_0 rfl rfl ?_
  refine x_get fX3_27 rfl dX3_isFilled_1 (by with_reducible repeat first | assumption | exact hset_s | refine hget_n (by first | assumption | exact Ne.symm (by assumption) | exact nA (by assumption) (by omega) (by omega) (by omega)) ?_) (by rfl) ?_
  refine x_bipush (v := -4) dX3_isFilled_4 rfl ?_
  refine x_icmp_eq 13 dX3_isFilled_6 (by decide) (fun c6 => ?_) (fun c6 => ?_)
  · refine x_iconst (v := 0) dX3_isFilled_13 rfl ?_
    refine x_zret rfl (by first | rfl | (split <;> rfl) | (unfold b2i; split <;> rfl)) dX3_isFilled_14 ?_
    refine ⟨congrArg (fun z => some (Value.int z)) ?_, rfl⟩
    unfold soldK
    (repeat' split) <;> first | rfl | contradiction | (simp_all; done) | (exfalso; simp only [Int32.lt_iff_toInt_lt, Int32.le_iff_toInt_le] at *; omega)
  · refine x_iconst (v := 1) dX3_isFilled_9 rfl ?_
    refine x_goto 14 dX3_isFilled_10 (by decide) ?_
    refine x_zret rfl (by first | rfl | (split <;> rfl) | (unfold b2i; split <;> rfl)) dX3_isFilled_14 ?_
    refine ⟨congrArg (fun z => some (Value.int z)) ?_, rfl⟩
    unfold soldK
    (repeat' split) <;> first | rfl | contradiction | (simp_all; done) | (exfalso; simp only [Int32.lt_iff_toInt_lt, Int32.le_iff_toInt_le] at *; omega)
set_option maxRecDepth 100000 in
set_option maxHeartbeats 4000000 in
theorem ct_X3_payFor {l : Launch} {G : Gl} {h : Hp} {t2 p2 po pd : Int32} {k2 q : Nat} {n sh g b t r m o : Int32} {k p : Nat} (hq : h q = some (eOrd G k2 t2 p2 po pd)) (hp : h p = some (ePot G n k sh g b t r m o)) : CtR l G mX3_payFor 2 [.ref q, .ref p] h (some (.int (payK m p2))) (h) := by
  refine Ct.of (L := [(0, _), (1, _)]) (by decide) (ble rfl) rfl ?_
  first | refine x_aload_n 1 dX3_payFor_0 rfl rfl ?_ | refine x_aload_nN 1 dX3_payFor_0 rfl rfl ?_
  refine x_cV1 (As := []) (ct_X4_isNew (by with_reducible repeat first | assumption | exact hset_s | refine hget_n (by first | assumption | exact Ne.symm (by assumption) | exact nA (by assumption) (by omega) (by omega) (by omega)) ?_)) vX3_33 rfl (x_recv (by with_reducible repeat first | assumption | exact hset_s | refine hget_n (by first | assumption | exact Ne.symm (by assumption) | exact nA (by assumption) (by omega) (by omega) (by omega)) ?_) rfl) rfl ⟨ble rfl, ble rfl⟩ (ble rfl) dX3_payFor_1 rfl ?_
  refine x_if_eq 14 dX3_payFor_4 (by decide) (fun c4 => ?_) (fun c4 => ?_)
  · first | refine x_aload_n 0 dX3_payFor_14 rfl rfl ?_ | refine x_aload_nN 0 dX3_payFor_14 rfl rfl ?_
    refine x_get fX3_24 rfl dX3_payFor_15 (by with_reducible repeat first | assumption | exact hset_s | refine hget_n (by first | assumption | exact Ne.symm (by assumption) | exact nA (by assumption) (by omega) (by omega) (by omega)) ?_) (by rfl) ?_
    refine x_iconst (v := 2) dX3_payFor_18 rfl ?_
    refine x_idiv dX3_payFor_19 (by first | decide | assumption) ?_
    refine x_iret rfl dX3_payFor_20 ?_
    refine ⟨congrArg (fun z => some (Value.int z)) ?_, rfl⟩
    unfold newK at *
    unfold payK
    (repeat' split at *) <;> first | rfl | contradiction | (simp_all; done)
  · first | refine x_aload_n 0 dX3_payFor_7 rfl rfl ?_ | refine x_aload_nN 0 dX3_payFor_7 rfl rfl ?_
    refine x_get fX3_24 rfl dX3_payFor_8 (by with_reducible repeat first | assumption | exact hset_s | refine hget_n (by first | assumption | exact Ne.symm (by assumption) | exact nA (by assumption) (by omega) (by omega) (by omega)) ?_) (by rfl) ?_
    refine x_goto 20 dX3_payFor_11 (by decide) ?_
    refine x_iret rfl dX3_payFor_20 ?_
    refine ⟨congrArg (fun z => some (Value.int z)) ?_, rfl⟩
    unfold newK at *
    unfold payK
    (repeat' split at *) <;> first | rfl | contradiction | (simp_all; done)
set_option maxRecDepth 100000 in
set_option maxHeartbeats 4000000 in
theorem ct_X3_tinFor {l : Launch} {G : Gl} {h : Hp} {t2 p2 po pd : Int32} {k2 q : Nat} {n sh g b t r m o : Int32} {k p : Nat} (hq : h q = some (eOrd G k2 t2 p2 po pd)) (hp : h p = some (ePot G n k sh g b t r m o)) : CtR l G mX3_tinFor 2 [.ref q, .ref p] h (some (.int (tinK m t2))) (h) := by
  refine Ct.of (L := [(0, _), (1, _)]) (by decide) (ble rfl) rfl ?_
  first | refine x_aload_n 1 dX3_tinFor_0 rfl rfl ?_ | refine x_aload_nN 1 dX3_tinFor_0 rfl rfl ?_
  refine x_cV1 (As := []) (ct_X4_isNew (by with_reducible repeat first | assumption | exact hset_s | refine hget_n (by first | assumption | exact Ne.symm (by assumption) | exact nA (by assumption) (by omega) (by omega) (by omega)) ?_)) vX3_33 rfl (x_recv (by with_reducible repeat first | assumption | exact hset_s | refine hget_n (by first | assumption | exact Ne.symm (by assumption) | exact nA (by assumption) (by omega) (by omega) (by omega)) ?_) rfl) rfl ⟨ble rfl, ble rfl⟩ (ble rfl) dX3_tinFor_1 rfl ?_
  refine x_if_eq 18 dX3_tinFor_4 (by decide) (fun c4 => ?_) (fun c4 => ?_)
  · first | refine x_aload_n 0 dX3_tinFor_18 rfl rfl ?_ | refine x_aload_nN 0 dX3_tinFor_18 rfl rfl ?_
    refine x_get fX3_20 rfl dX3_tinFor_19 (by with_reducible repeat first | assumption | exact hset_s | refine hget_n (by first | assumption | exact Ne.symm (by assumption) | exact nA (by assumption) (by omega) (by omega) (by omega)) ?_) (by rfl) ?_
    refine x_iret rfl dX3_tinFor_22 ?_
    refine ⟨congrArg (fun z => some (Value.int z)) ?_, rfl⟩
    unfold newK at *
    unfold tinK mx
    (repeat' split at *) <;> first | rfl | contradiction | (simp_all; done)
  · first | refine x_aload_n 0 dX3_tinFor_7 rfl rfl ?_ | refine x_aload_nN 0 dX3_tinFor_7 rfl rfl ?_
    refine x_get fX3_20 rfl dX3_tinFor_8 (by with_reducible repeat first | assumption | exact hset_s | refine hget_n (by first | assumption | exact Ne.symm (by assumption) | exact nA (by assumption) (by omega) (by omega) (by omega)) ?_) (by rfl) ?_
    refine x_iconst (v := 3) dX3_tinFor_11 rfl ?_
    refine x_mmax rfl wX3_39 wMmax2 wMath3 wMmax4 (ble rfl) (ble rfl) dX3_tinFor_12 ?_
    refine x_goto 22 dX3_tinFor_15 (by decide) ?_
    refine x_iret rfl dX3_tinFor_22 ?_
    refine ⟨congrArg (fun z => some (Value.int z)) ?_, rfl⟩
    unfold newK at *
    unfold tinK mx
    (repeat' split at *) <;> first | rfl | contradiction | (simp_all; done)
set_option maxRecDepth 100000 in
set_option maxHeartbeats 4000000 in
theorem ct_X3_arrive {l : Launch} {G : Gl} {h : Hp} {t2 p2 po pd : Int32} {k2 q : Nat} {k3 : Nat} {t3 p3 : Int32} (hq : h q = some (eOrd G k2 t2 p2 po pd)) (hA : G.2.2.1 q) : CtR l G mX3_arrive 1 [.ref q, .ref (G.2.2.2 k3), .int t3, .int p3] h (none) (hset h q (eOrd G k3 t3 p3 (-4) 0)) := by
  refine Ct.of (L := [(0, _), (1, _), (2, _), (3, _)]) (by decide) (ble rfl) rfl ?_
  first | refine x_aload_n 0 dX3_arrive_0 rfl rfl ?_ | refine x_aload_nN 0 dX3_arrive_0 rfl rfl ?_
  first | refine x_aload_n 1 dX3_arrive_1 rfl rfl ?_ | refine x_aload_nN 1 dX3_arrive_1 rfl rfl ?_
  refine x_put fX3_15 rfl rfl rfl rfl dX3_arrive_2 (by with_reducible repeat first | assumption | exact hset_s | refine hget_n (by first | assumption | exact Ne.symm (by assumption) | exact nA (by assumption) (by omega) (by omega) (by omega)) ?_) (by exact ble rfl) (by first | assumption | exact aA (by assumption) (by omega)) ?_
  first | refine x_aload_n 0 dX3_arrive_5 rfl rfl ?_ | refine x_aload_nN 0 dX3_arrive_5 rfl rfl ?_
  refine x_iload_n 2 dX3_arrive_6 rfl rfl ?_
  refine x_putS fX3_20 rfl rfl rfl rfl dX3_arrive_7 (by exact ble rfl) (by first | assumption | exact aA (by assumption) (by omega)) ?_
  first | refine x_aload_n 0 dX3_arrive_10 rfl rfl ?_ | refine x_aload_nN 0 dX3_arrive_10 rfl rfl ?_
  refine x_iload_n 3 dX3_arrive_11 rfl rfl ?_
  refine x_putS fX3_24 rfl rfl rfl rfl dX3_arrive_12 (by exact ble rfl) (by first | assumption | exact aA (by assumption) (by omega)) ?_
  first | refine x_aload_n 0 dX3_arrive_15 rfl rfl ?_ | refine x_aload_nN 0 dX3_arrive_15 rfl rfl ?_
  refine x_bipush (v := -4) dX3_arrive_16 rfl ?_
  refine x_putS fX3_27 rfl rfl rfl rfl dX3_arrive_18 (by exact ble rfl) (by first | assumption | exact aA (by assumption) (by omega)) ?_
  first | refine x_aload_n 0 dX3_arrive_21 rfl rfl ?_ | refine x_aload_nN 0 dX3_arrive_21 rfl rfl ?_
  refine x_iconst (v := 0) dX3_arrive_22 rfl ?_
  refine x_putS fX3_30 rfl rfl rfl rfl dX3_arrive_23 (by exact ble rfl) (by first | assumption | exact aA (by assumption) (by omega)) ?_
  refine x_vret rfl dX3_arrive_26 ?_
  exact ⟨rfl, by simp only [hset_2, List.set]⟩
set_option maxRecDepth 100000 in
set_option maxHeartbeats 4000000 in
theorem ct_X3_copyFrom {l : Launch} {G : Gl} {h : Hp} {t2 p2 po pd : Int32} {k2 q : Nat} {t3 p3 po3 pd3 : Int32} {k3 q3 : Nat} (hq : h q = some (eOrd G k2 t2 p2 po pd)) (hq3 : h q3 = some (eOrd G k3 t3 p3 po3 pd3)) (hn : q3 ≠ q) (hA : G.2.2.1 q) : CtR l G mX3_copyFrom 1 [.ref q, .ref q3] h (none) (hset h q (eOrd G k3 t3 p3 po3 pd3)) := by
  refine Ct.of (L := [(0, _), (1, _)]) (by decide) (ble rfl) rfl ?_
  first | refine x_aload_n 0 dX3_copyFrom_0 rfl rfl ?_ | refine x_aload_nN 0 dX3_copyFrom_0 rfl rfl ?_
  first | refine x_aload_n 1 dX3_copyFrom_1 rfl rfl ?_ | refine x_aload_nN 1 dX3_copyFrom_1 rfl rfl ?_
  refine x_get fX3_15 rfl dX3_copyFrom_2 (by with_reducible repeat first | assumption | exact hset_s | refine hget_n (by first | assumption | exact Ne.symm (by assumption) | exact nA (by assumption) (by omega) (by omega) (by omega)) ?_) (by rfl) ?_
  refine x_put fX3_15 rfl rfl rfl rfl dX3_copyFrom_5 (by with_reducible repeat first | assumption | exact hset_s | refine hget_n (by first | assumption | exact Ne.symm (by assumption) | exact nA (by assumption) (by omega) (by omega) (by omega)) ?_) (by exact ble rfl) (by first | assumption | exact aA (by assumption) (by omega)) ?_
  first | refine x_aload_n 0 dX3_copyFrom_8 rfl rfl ?_ | refine x_aload_nN 0 dX3_copyFrom_8 rfl rfl ?_
  first | refine x_aload_n 1 dX3_copyFrom_9 rfl rfl ?_ | refine x_aload_nN 1 dX3_copyFrom_9 rfl rfl ?_
  refine x_get fX3_20 rfl dX3_copyFrom_10 (by with_reducible repeat first | assumption | exact hset_s | refine hget_n (by first | assumption | exact Ne.symm (by assumption) | exact nA (by assumption) (by omega) (by omega) (by omega)) ?_) (by rfl) ?_
  refine x_putS fX3_20 rfl rfl rfl rfl dX3_copyFrom_13 (by exact ble rfl) (by first | assumption | exact aA (by assumption) (by omega)) ?_
  first | refine x_aload_n 0 dX3_copyFrom_16 rfl rfl ?_ | refine x_aload_nN 0 dX3_copyFrom_16 rfl rfl ?_
  first | refine x_aload_n 1 dX3_copyFrom_17 rfl rfl ?_ | refine x_aload_nN 1 dX3_copyFrom_17 rfl rfl ?_
  refine x_get fX3_24 rfl dX3_copyFrom_18 (by with_reducible repeat first | assumption | exact hset_s | refine hget_n (by first | assumption | exact Ne.symm (by assumption) | exact nA (by assumption) (by omega) (by omega) (by omega)) ?_) (by rfl) ?_
  refine x_putS fX3_24 rfl rfl rfl rfl dX3_copyFrom_21 (by exact ble rfl) (by first | assumption | exact aA (by assumption) (by omega)) ?_
  first | refine x_aload_n 0 dX3_copyFrom_24 rfl rfl ?_ | refine x_aload_nN 0 dX3_copyFrom_24 rfl rfl ?_
  first | refine x_aload_n 1 dX3_copyFrom_25 rfl rfl ?_ | refine x_aload_nN 1 dX3_copyFrom_25 rfl rfl ?_
  refine x_get fX3_27 rfl dX3_copyFrom_26 (by with_reducible repeat first | assumption | exact hset_s | refine hget_n (by first | assumption | exact Ne.symm (by assumption) | exact nA (by assumption) (by omega) (by omega) (by omega)) ?_) (by rfl) ?_
  refine x_putS fX3_27 rfl rfl rfl rfl dX3_copyFrom_29 (by exact ble rfl) (by first | assumption | exact aA (by assumption) (by omega)) ?_
  first | refine x_aload_n 0 dX3_copyFrom_32 rfl rfl ?_ | refine x_aload_nN 0 dX3_copyFrom_32 rfl rfl ?_
  first | refine x_aload_n 1 dX3_copyFrom_33 rfl rfl ?_ | refine x_aload_nN 1 dX3_copyFrom_33 rfl rfl ?_
  refine x_get fX3_30 rfl dX3_copyFrom_34 (by with_reducible repeat first | assumption | exact hset_s | refine hget_n (by first | assumption | exact Ne.symm (by assumption) | exact nA (by assumption) (by omega) (by omega) (by omega)) ?_) (by rfl) ?_
  refine x_putS fX3_30 rfl rfl rfl rfl dX3_copyFrom_37 (by exact ble rfl) (by first | assumption | exact aA (by assumption) (by omega)) ?_
  refine x_vret rfl dX3_copyFrom_40 ?_
  exact ⟨rfl, by simp only [hset_2, List.set]⟩
set_option maxRecDepth 100000 in
set_option maxHeartbeats 4000000 in
theorem ct_X7_arrive {l : Launch} {G : Gl} {h : Hp} {g fa ar ps : Int32} {s : Nat} {g2 a2 : Int32} (hs : h s = some (eSheet g fa ar ps)) (hA : G.2.2.1 s) : CtR l G mX7_arrive 1 [.ref s, .int g2, .int a2] h (none) (hset h s (eSheet g2 a2 a2 0)) := by
  refine Ct.of (L := [(0, _), (1, _), (2, _)]) (by decide) (ble rfl) rfl ?_
  first | refine x_aload_n 0 dX7_arrive_0 rfl rfl ?_ | refine x_aload_nN 0 dX7_arrive_0 rfl rfl ?_
  refine x_iload_n 1 dX7_arrive_1 rfl rfl ?_
  refine x_put fX7_9 rfl rfl rfl rfl dX7_arrive_2 (by with_reducible repeat first | assumption | exact hset_s | refine hget_n (by first | assumption | exact Ne.symm (by assumption) | exact nA (by assumption) (by omega) (by omega) (by omega)) ?_) (by exact ble rfl) (by first | assumption | exact aA (by assumption) (by omega)) ?_
  first | refine x_aload_n 0 dX7_arrive_5 rfl rfl ?_ | refine x_aload_nN 0 dX7_arrive_5 rfl rfl ?_
  refine x_iload_n 2 dX7_arrive_6 rfl rfl ?_
  refine x_putS fX7_15 rfl rfl rfl rfl dX7_arrive_7 (by exact ble rfl) (by first | assumption | exact aA (by assumption) (by omega)) ?_
  first | refine x_aload_n 0 dX7_arrive_10 rfl rfl ?_ | refine x_aload_nN 0 dX7_arrive_10 rfl rfl ?_
  refine x_iload_n 2 dX7_arrive_11 rfl rfl ?_
  refine x_putS fX7_18 rfl rfl rfl rfl dX7_arrive_12 (by exact ble rfl) (by first | assumption | exact aA (by assumption) (by omega)) ?_
  first | refine x_aload_n 0 dX7_arrive_15 rfl rfl ?_ | refine x_aload_nN 0 dX7_arrive_15 rfl rfl ?_
  refine x_iconst (v := 0) dX7_arrive_16 rfl ?_
  refine x_putS fX7_21 rfl rfl rfl rfl dX7_arrive_17 (by exact ble rfl) (by first | assumption | exact aA (by assumption) (by omega)) ?_
  refine x_vret rfl dX7_arrive_20 ?_
  exact ⟨rfl, by simp only [hset_2, List.set]⟩
set_option maxRecDepth 100000 in
set_option maxHeartbeats 4000000 in
theorem ct_X7_copyFrom {l : Launch} {G : Gl} {h : Hp} {g fa ar ps : Int32} {s : Nat} {g2 fa2 ar2 ps2 : Int32} {s2 : Nat} (hs : h s = some (eSheet g fa ar ps)) (hs2 : h s2 = some (eSheet g2 fa2 ar2 ps2)) (hn : s2 ≠ s) (hA : G.2.2.1 s) : CtR l G mX7_copyFrom 1 [.ref s, .ref s2] h (none) (hset h s (eSheet g2 fa2 ar2 ps2)) := by
  refine Ct.of (L := [(0, _), (1, _)]) (by decide) (ble rfl) rfl ?_
  first | refine x_aload_n 0 dX7_copyFrom_0 rfl rfl ?_ | refine x_aload_nN 0 dX7_copyFrom_0 rfl rfl ?_
  first | refine x_aload_n 1 dX7_copyFrom_1 rfl rfl ?_ | refine x_aload_nN 1 dX7_copyFrom_1 rfl rfl ?_
  refine x_get fX7_9 rfl dX7_copyFrom_2 (by with_reducible repeat first | assumption | exact hset_s | refine hget_n (by first | assumption | exact Ne.symm (by assumption) | exact nA (by assumption) (by omega) (by omega) (by omega)) ?_) (by rfl) ?_
  refine x_put fX7_9 rfl rfl rfl rfl dX7_copyFrom_5 (by with_reducible repeat first | assumption | exact hset_s | refine hget_n (by first | assumption | exact Ne.symm (by assumption) | exact nA (by assumption) (by omega) (by omega) (by omega)) ?_) (by exact ble rfl) (by first | assumption | exact aA (by assumption) (by omega)) ?_
  first | refine x_aload_n 0 dX7_copyFrom_8 rfl rfl ?_ | refine x_aload_nN 0 dX7_copyFrom_8 rfl rfl ?_
  first | refine x_aload_n 1 dX7_copyFrom_9 rfl rfl ?_ | refine x_aload_nN 1 dX7_copyFrom_9 rfl rfl ?_
  refine x_get fX7_15 rfl dX7_copyFrom_10 (by with_reducible repeat first | assumption | exact hset_s | refine hget_n (by first | assumption | exact Ne.symm (by assumption) | exact nA (by assumption) (by omega) (by omega) (by omega)) ?_) (by rfl) ?_
  refine x_putS fX7_15 rfl rfl rfl rfl dX7_copyFrom_13 (by exact ble rfl) (by first | assumption | exact aA (by assumption) (by omega)) ?_
  first | refine x_aload_n 0 dX7_copyFrom_16 rfl rfl ?_ | refine x_aload_nN 0 dX7_copyFrom_16 rfl rfl ?_
  first | refine x_aload_n 1 dX7_copyFrom_17 rfl rfl ?_ | refine x_aload_nN 1 dX7_copyFrom_17 rfl rfl ?_
  refine x_get fX7_18 rfl dX7_copyFrom_18 (by with_reducible repeat first | assumption | exact hset_s | refine hget_n (by first | assumption | exact Ne.symm (by assumption) | exact nA (by assumption) (by omega) (by omega) (by omega)) ?_) (by rfl) ?_
  refine x_putS fX7_18 rfl rfl rfl rfl dX7_copyFrom_21 (by exact ble rfl) (by first | assumption | exact aA (by assumption) (by omega)) ?_
  first | refine x_aload_n 0 dX7_copyFrom_24 rfl rfl ?_ | refine x_aload_nN 0 dX7_copyFrom_24 rfl rfl ?_
  first | refine x_aload_n 1 dX7_copyFrom_25 rfl rfl ?_ | refine x_aload_nN 1 dX7_copyFrom_25 rfl rfl ?_
  refine x_get fX7_21 rfl dX7_copyFrom_26 (by with_reducible repeat first | assumption | exact hset_s | refine hget_n (by first | assumption | exact Ne.symm (by assumption) | exact nA (by assumption) (by omega) (by omega) (by omega)) ?_) (by rfl) ?_
  refine x_putS fX7_21 rfl rfl rfl rfl dX7_copyFrom_29 (by exact ble rfl) (by first | assumption | exact aA (by assumption) (by omega)) ?_
  refine x_vret rfl dX7_copyFrom_32 ?_
  exact ⟨rfl, by simp only [hset_2, List.set]⟩
set_option maxRecDepth 100000 in
set_option maxHeartbeats 4000000 in
theorem ct_X4_arrive {l : Launch} {G : Gl} {h : Hp} {n sh g b t r m o : Int32} {k p : Nat} {k3 : Nat} {sh3 g3 : Int32} (hp : h p = some (ePot G n k sh g b t r m o)) (hA : G.2.2.1 p) : CtR l G mX4_arrive 1 [.ref p, .ref (G.2.2.2 k3), .int sh3, .int g3] h (none) (hset h p (ePot G n k3 sh3 g3 0 0 0 0 (-4))) := by
  refine Ct.of (L := [(0, _), (1, _), (2, _), (3, _)]) (by decide) (ble rfl) rfl ?_
  first | refine x_aload_n 0 dX4_arrive_0 rfl rfl ?_ | refine x_aload_nN 0 dX4_arrive_0 rfl rfl ?_
  first | refine x_aload_n 1 dX4_arrive_1 rfl rfl ?_ | refine x_aload_nN 1 dX4_arrive_1 rfl rfl ?_
  refine x_put fX4_15 rfl rfl rfl rfl dX4_arrive_2 (by with_reducible repeat first | assumption | exact hset_s | refine hget_n (by first | assumption | exact Ne.symm (by assumption) | exact nA (by assumption) (by omega) (by omega) (by omega)) ?_) (by exact ble rfl) (by first | assumption | exact aA (by assumption) (by omega)) ?_
  first | refine x_aload_n 0 dX4_arrive_5 rfl rfl ?_ | refine x_aload_nN 0 dX4_arrive_5 rfl rfl ?_
  refine x_iload_n 2 dX4_arrive_6 rfl rfl ?_
  refine x_putS fX4_20 rfl rfl rfl rfl dX4_arrive_7 (by exact ble rfl) (by first | assumption | exact aA (by assumption) (by omega)) ?_
  first | refine x_aload_n 0 dX4_arrive_10 rfl rfl ?_ | refine x_aload_nN 0 dX4_arrive_10 rfl rfl ?_
  refine x_iload_n 3 dX4_arrive_11 rfl rfl ?_
  refine x_putS fX4_24 rfl rfl rfl rfl dX4_arrive_12 (by exact ble rfl) (by first | assumption | exact aA (by assumption) (by omega)) ?_
  first | refine x_aload_n 0 dX4_arrive_15 rfl rfl ?_ | refine x_aload_nN 0 dX4_arrive_15 rfl rfl ?_
  refine x_iconst (v := 0) dX4_arrive_16 rfl ?_
  refine x_putS fX4_27 rfl rfl rfl rfl dX4_arrive_17 (by exact ble rfl) (by first | assumption | exact aA (by assumption) (by omega)) ?_
  first | refine x_aload_n 0 dX4_arrive_20 rfl rfl ?_ | refine x_aload_nN 0 dX4_arrive_20 rfl rfl ?_
  refine x_iconst (v := 0) dX4_arrive_21 rfl ?_
  refine x_putS fX4_30 rfl rfl rfl rfl dX4_arrive_22 (by exact ble rfl) (by first | assumption | exact aA (by assumption) (by omega)) ?_
  first | refine x_aload_n 0 dX4_arrive_25 rfl rfl ?_ | refine x_aload_nN 0 dX4_arrive_25 rfl rfl ?_
  refine x_iconst (v := 0) dX4_arrive_26 rfl ?_
  refine x_putS fX4_33 rfl rfl rfl rfl dX4_arrive_27 (by exact ble rfl) (by first | assumption | exact aA (by assumption) (by omega)) ?_
  first | refine x_aload_n 0 dX4_arrive_30 rfl rfl ?_ | refine x_aload_nN 0 dX4_arrive_30 rfl rfl ?_
  refine x_iconst (v := 0) dX4_arrive_31 rfl ?_
  refine x_putS fX4_36 rfl rfl rfl rfl dX4_arrive_32 (by exact ble rfl) (by first | assumption | exact aA (by assumption) (by omega)) ?_
  first | refine x_aload_n 0 dX4_arrive_35 rfl rfl ?_ | refine x_aload_nN 0 dX4_arrive_35 rfl rfl ?_
  refine x_bipush (v := -4) dX4_arrive_36 rfl ?_
  refine x_putS fX4_39 rfl rfl rfl rfl dX4_arrive_38 (by exact ble rfl) (by first | assumption | exact aA (by assumption) (by omega)) ?_
  refine x_vret rfl dX4_arrive_41 ?_
  exact ⟨rfl, by simp only [hset_2, List.set]⟩
set_option maxRecDepth 100000 in
set_option maxHeartbeats 4000000 in
theorem ct_X4_copyFrom {l : Launch} {G : Gl} {h : Hp} {n sh g b t r m o : Int32} {k p : Nat} {n3 sh3 g3 b3 t3 r3 m3 o3 : Int32} {k3 p3 : Nat} (hp : h p = some (ePot G n k sh g b t r m o)) (hp3 : h p3 = some (ePot G n3 k3 sh3 g3 b3 t3 r3 m3 o3)) (hn : p3 ≠ p) (hA : G.2.2.1 p) : CtR l G mX4_copyFrom 1 [.ref p, .ref p3] h (none) (hset h p (ePot G n k3 sh3 g3 b3 t3 r3 m3 o3)) := by
  refine Ct.of (L := [(0, _), (1, _)]) (by decide) (ble rfl) rfl ?_
  first | refine x_aload_n 0 dX4_copyFrom_0 rfl rfl ?_ | refine x_aload_nN 0 dX4_copyFrom_0 rfl rfl ?_
  first | refine x_aload_n 1 dX4_copyFrom_1 rfl rfl ?_ | refine x_aload_nN 1 dX4_copyFrom_1 rfl rfl ?_
  refine x_get fX4_15 rfl dX4_copyFrom_2 (by with_reducible repeat first | assumption | exact hset_s | refine hget_n (by first | assumption | exact Ne.symm (by assumption) | exact nA (by assumption) (by omega) (by omega) (by omega)) ?_) (by rfl) ?_
  refine x_put fX4_15 rfl rfl rfl rfl dX4_copyFrom_5 (by with_reducible repeat first | assumption | exact hset_s | refine hget_n (by first | assumption | exact Ne.symm (by assumption) | exact nA (by assumption) (by omega) (by omega) (by omega)) ?_) (by exact ble rfl) (by first | assumption | exact aA (by assumption) (by omega)) ?_
  first | refine x_aload_n 0 dX4_copyFrom_8 rfl rfl ?_ | refine x_aload_nN 0 dX4_copyFrom_8 rfl rfl ?_
  first | refine x_aload_n 1 dX4_copyFrom_9 rfl rfl ?_ | refine x_aload_nN 1 dX4_copyFrom_9 rfl rfl ?_
  refine x_get fX4_20 rfl dX4_copyFrom_10 (by with_reducible repeat first | assumption | exact hset_s | refine hget_n (by first | assumption | exact Ne.symm (by assumption) | exact nA (by assumption) (by omega) (by omega) (by omega)) ?_) (by rfl) ?_
  refine x_putS fX4_20 rfl rfl rfl rfl dX4_copyFrom_13 (by exact ble rfl) (by first | assumption | exact aA (by assumption) (by omega)) ?_
  first | refine x_aload_n 0 dX4_copyFrom_16 rfl rfl ?_ | refine x_aload_nN 0 dX4_copyFrom_16 rfl rfl ?_
  first | refine x_aload_n 1 dX4_copyFrom_17 rfl rfl ?_ | refine x_aload_nN 1 dX4_copyFrom_17 rfl rfl ?_
  refine x_get fX4_24 rfl dX4_copyFrom_18 (by with_reducible repeat first | assumption | exact hset_s | refine hget_n (by first | assumption | exact Ne.symm (by assumption) | exact nA (by assumption) (by omega) (by omega) (by omega)) ?_) (by rfl) ?_
  refine x_putS fX4_24 rfl rfl rfl rfl dX4_copyFrom_21 (by exact ble rfl) (by first | assumption | exact aA (by assumption) (by omega)) ?_
  first | refine x_aload_n 0 dX4_copyFrom_24 rfl rfl ?_ | refine x_aload_nN 0 dX4_copyFrom_24 rfl rfl ?_
  first | refine x_aload_n 1 dX4_copyFrom_25 rfl rfl ?_ | refine x_aload_nN 1 dX4_copyFrom_25 rfl rfl ?_
  refine x_get fX4_27 rfl dX4_copyFrom_26 (by with_reducible repeat first | assumption | exact hset_s | refine hget_n (by first | assumption | exact Ne.symm (by assumption) | exact nA (by assumption) (by omega) (by omega) (by omega)) ?_) (by rfl) ?_
  refine x_putS fX4_27 rfl rfl rfl rfl dX4_copyFrom_29 (by exact ble rfl) (by first | assumption | exact aA (by assumption) (by omega)) ?_
  first | refine x_aload_n 0 dX4_copyFrom_32 rfl rfl ?_ | refine x_aload_nN 0 dX4_copyFrom_32 rfl rfl ?_
  first | refine x_aload_n 1 dX4_copyFrom_33 rfl rfl ?_ | refine x_aload_nN 1 dX4_copyFrom_33 rfl rfl ?_
  refine x_get fX4_30 rfl dX4_copyFrom_34 (by with_reducible repeat first | assumption | exact hset_s | refine hget_n (by first | assumption | exact Ne.symm (by assumption) | exact nA (by assumption) (by omega) (by omega) (by omega)) ?_) (by rfl) ?_
  refine x_putS fX4_30 rfl rfl rfl rfl dX4_copyFrom_37 (by exact ble rfl) (by first | assumption | exact aA (by assumption) (by omega)) ?_
  first | refine x_aload_n 0 dX4_copyFrom_40 rfl rfl ?_ | refine x_aload_nN 0 dX4_copyFrom_40 rfl rfl ?_
  first | refine x_aload_n 1 dX4_copyFrom_41 rfl rfl ?_ | refine x_aload_nN 1 dX4_copyFrom_41 rfl rfl ?_
  refine x_get fX4_33 rfl dX4_copyFrom_42 (by with_reducible repeat first | assumption | exact hset_s | refine hget_n (by first | assumption | exact Ne.symm (by assumption) | exact nA (by assumption) (by omega) (by omega) (by omega)) ?_) (by rfl) ?_
  refine x_putS fX4_33 rfl rfl rfl rfl dX4_copyFrom_45 (by exact ble rfl) (by first | assumption | exact aA (by assumption) (by omega)) ?_
  first | refine x_aload_n 0 dX4_copyFrom_48 rfl rfl ?_ | refine x_aload_nN 0 dX4_copyFrom_48 rfl rfl ?_
  first | refine x_aload_n 1 dX4_copyFrom_49 rfl rfl ?_ | refine x_aload_nN 1 dX4_copyFrom_49 rfl rfl ?_
  refine x_get fX4_36 rfl dX4_copyFrom_50 (by with_reducible repeat first | assumption | exact hset_s | refine hget_n (by first | assumption | exact Ne.symm (by assumption) | exact nA (by assumption) (by omega) (by omega) (by omega)) ?_) (by rfl) ?_
  refine x_putS fX4_36 rfl rfl rfl rfl dX4_copyFrom_53 (by exact ble rfl) (by first | assumption | exact aA (by assumption) (by omega)) ?_
  first | refine x_aload_n 0 dX4_copyFrom_56 rfl rfl ?_ | refine x_aload_nN 0 dX4_copyFrom_56 rfl rfl ?_
  first | refine x_aload_n 1 dX4_copyFrom_57 rfl rfl ?_ | refine x_aload_nN 1 dX4_copyFrom_57 rfl rfl ?_
  refine x_get fX4_39 rfl dX4_copyFrom_58 (by with_reducible repeat first | assumption | exact hset_s | refine hget_n (by first | assumption | exact Ne.symm (by assumption) | exact nA (by assumption) (by omega) (by omega) (by omega)) ?_) (by rfl) ?_
  refine x_putS fX4_39 rfl rfl rfl rfl dX4_copyFrom_61 (by exact ble rfl) (by first | assumption | exact aA (by assumption) (by omega)) ?_
  refine x_vret rfl dX4_copyFrom_64 ?_
  exact ⟨rfl, by simp only [hset_2, List.set]⟩
