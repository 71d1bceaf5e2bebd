/-! ===== what the premises say, one by one ===== -/
def nav : Nat → Nat → Cond → Cond
  | n + 1, k, .and a b => if k % 2 = 0 then nav n (k / 2) a else nav n (k / 2) b
  | _, _, c => c
theorem nav_b {args : Array Value} {s : State} : ∀ (n k : Nat) (c : Cond), c.before args s = true → (nav n k c).before args s = true
  | 0, k, c, h => by cases c <;> exact h
  | n + 1, k, c, h => by
    cases c with
    | and a b =>
      rw [Cond.before_and, Bool.and_eq_true] at h
      show (if k % 2 = 0 then nav n (k / 2) a else nav n (k / 2) b).before args s = true
      split
      · exact nav_b n _ a h.1
      · exact nav_b n _ b h.2
    | _ => exact h
def nr (k : Nat) : Cond := nav 24 k narrow_1
def tmK (i : Nat) : Term := .static RX2 (nmKd.getD i "") "LCopperStreet$Kind;"
theorem nK_ex : ∀ i, i < 3 → nr (([40, 33, 35] : List Nat).getD i 0) = Cond.exactly (tmK i) RX2 := by decide +kernel
theorem nK_f0 : ∀ i, i < 3 → nr (([120, 41, 43] : List Nat).getD i 0) = Cond.eq (.field (tmK i) RX2 "number" "I") (.int (([0, 1, 2] : List Int32).getD i 0)) := by decide +kernel
theorem nK_f1 : ∀ i, i < 3 → nr (([36, 89, 91] : List Nat).getD i 0) = Cond.eq (.field (tmK i) RX2 "area" "I") (.int (([12, 8, 20] : List Int32).getD i 0)) := by decide +kernel
theorem nK_f2 : ∀ i, i < 3 → nr (([52, 121, 123] : List Nat).getD i 0) = Cond.eq (.field (tmK i) RX2 "smoothBlows" "I") (.int (([24, 16, 40] : List Int32).getD i 0)) := by decide +kernel
theorem nK_f3 : ∀ i, i < 3 → nr (([44, 37, 39] : List Nat).getD i 0) = Cond.eq (.field (tmK i) RX2 "mealsToWear" "I") (.int (([4, 2, 6] : List Int32).getD i 0)) := by decide +kernel
theorem nK_f4 : ∀ i, i < 3 → nr (([92, 53, 87] : List Nat).getD i 0) = Cond.eq (.field (tmK i) RX2 "bareSound" "I") (.int (([30, 50, 10] : List Int32).getD i 0)) := by decide +kernel
theorem nK_f5 : ∀ i, i < 3 → nr (([124, 45, 119] : List Nat).getD i 0) = Cond.eq (.field (tmK i) RX2 "soundByThickness" "I") (.int (([5, 4, 3] : List Int32).getD i 0)) := by decide +kernel
theorem nK_f6 : ∀ i, i < 3 → nr (([34, 93, 47] : List Nat).getD i 0) = Cond.eq (.field (tmK i) RX2 "halvesByTin" "I") (.int (([2, 4, 1] : List Int32).getD i 0)) := by decide +kernel
theorem nK_ne : ∀ i, i < 3 → ∀ j, j < 3 → i ≠ j → nr ((([[0, 125, 95], [125, 0, 127], [95, 127, 0]] : List (List Nat)).getD i []).getD j 0) = Cond.not (.eq (tmK i) (tmK j)) ∨ nr ((([[0, 125, 95], [125, 0, 127], [95, 127, 0]] : List (List Nat)).getD i []).getD j 0) = Cond.not (.eq (tmK j) (tmK i)) := by decide +kernel
def tKA : Term := .static RX2 "ALL" "[LCopperStreet$Kind;"
theorem tKA_a : nr 122 = Cond.arrayOf tKA (.object RX2) := by decide +kernel
theorem tKA_l : nr 38 = Cond.eq (.length tKA) (.int (Int32.ofNat 3)) := by decide +kernel
theorem tKA_e : ∀ j, j < 3 → nr (([46, 94, 126] : List Nat).getD j 0) = Cond.eq (.elem tKA (.int (Int32.ofNat j))) (tmK j) := by decide +kernel
theorem n_cs : nr 50 = Cond.eq (.static "java/lang/String" "COMPACT_STRINGS" "Z") (.int 1) := by decide +kernel
theorem wK_l : ∀ i, i < 3 → Cond.laysStatic RX2 (nmKd.getD i "") "LCopperStreet$Kind;" ∈ lw_tbl := by decide +kernel
theorem w_l : Cond.laysStatic RX2 "ALL" "[LCopperStreet$Kind;" ∈ lw_tbl ∧ Cond.laysStatic "java/lang/String" "COMPACT_STRINGS" "Z" ∈ lw_tbl := by decide +kernel
theorem w_i : Cond.initialized RX2 ∈ lw_tbl ∧ Cond.initialized "java/lang/String" ∈ lw_tbl := by decide +kernel
theorem w_n : Cond.instantiable RJ4 4 ∈ lw_tbl ∧ Cond.instantiable RX0 2 ∈ lw_tbl ∧ Cond.instantiable RX1 3 ∈ lw_tbl ∧ Cond.instantiable RX3 5 ∈ lw_tbl ∧ Cond.instantiable RX4 9 ∈ lw_tbl ∧ Cond.instantiable RX5 3 ∈ lw_tbl ∧ Cond.instantiable RX6 6 ∈ lw_tbl ∧ Cond.instantiable RX7 4 ∈ lw_tbl ∧ Cond.instantiable RX8 12 ∈ lw_tbl ∧ Cond.instantiable RX9 2 ∈ lw_tbl ∧ Cond.instantiable RX11 10 ∈ lw_tbl := by decide +kernel
theorem w_a : Cond.arrayClass .int ∈ lw_tbl ∧ Cond.arrayClass .byte ∈ lw_tbl ∧ Cond.arrayOver (.object RX7) ∈ lw_tbl ∧ Cond.arrayOver (.object RX4) ∈ lw_tbl ∧ Cond.arrayOver (.object RX3) ∈ lw_tbl ∧ Cond.arrayOver (.object RX8) ∈ lw_tbl ∧ Cond.arrayOver (.object RX10) ∈ lw_tbl := by decide +kernel
