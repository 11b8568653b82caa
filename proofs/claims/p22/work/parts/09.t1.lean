section PT1
/-! what the premise says of the read-only cells (laid by tgen.py) -/
def g_tm : Nat → Term := fun a => match a with
  | 0 => .static "HexCabinet" "PLACE_OF_CELL" "[I"
  | 1 => .static "HexCabinet" "FIRST_OF_COLUMN" "[I"
  | 2 => .static "HexCabinet" "STEPS" "[I"
  | 3 => .static "HexCabinet" "JUMPS" "[I"
  | 4 => .static "HexCabinet" "TAKING_STEPS" "[I"
  | 5 => .static "HexCabinet" "WORTH" "[I"
  | 8 => .static "java/lang/Integer" "DigitOnes" "[B"
  | 9 => .static "java/lang/Integer" "DigitTens" "[B"
  | 10 => .static "HexCabinet$Kind" "KINDS" "[LHexCabinet$Kind;"
  | 12 => .static "HexCabinet$Kind" "START" "LHexCabinet$Kind;"
  | 13 => .static "HexCabinet$Kind" "PUT" "LHexCabinet$Kind;"
  | 14 => .static "HexCabinet$Kind" "TURN" "LHexCabinet$Kind;"
  | 15 => .static "HexCabinet$Kind" "GO" "LHexCabinet$Kind;"
  | 16 => .static "HexCabinet$Kind" "AS" "LHexCabinet$Kind;"
  | 17 => .static "HexCabinet$Kind" "WHITE_SIDE" "LHexCabinet$Kind;"
  | 18 => .static "HexCabinet$Kind" "BLACK_SIDE" "LHexCabinet$Kind;"
  | 19 => .static "HexCabinet$Kind" "KING_PIECE" "LHexCabinet$Kind;"
  | 20 => .static "HexCabinet$Kind" "QUEEN_PIECE" "LHexCabinet$Kind;"
  | 21 => .static "HexCabinet$Kind" "ROOK_PIECE" "LHexCabinet$Kind;"
  | 22 => .static "HexCabinet$Kind" "BISHOP_PIECE" "LHexCabinet$Kind;"
  | 23 => .static "HexCabinet$Kind" "KNIGHT_PIECE" "LHexCabinet$Kind;"
  | 24 => .static "HexCabinet$Kind" "PAWN_PIECE" "LHexCabinet$Kind;"
  | 25 => .static "HexCabinet$Kind" "SEMICOLON" "LHexCabinet$Kind;"
  | 26 => .static "HexCabinet$Kind" "NAME" "LHexCabinet$Kind;"
  | 27 => .static "HexCabinet$Kind" "BAD" "LHexCabinet$Kind;"
  | 28 => .static "jdk/internal/util/Preconditions" "SIOOBE_FORMATTER" "Ljava/util/function/BiFunction;"
  | 29 => .arg 0
  | 30 => .string "HexCabinet$Kind" 86
  | 31 => .string "HexCabinet$Kind" 92
  | 32 => .string "HexCabinet$Kind" 95
  | 33 => .string "HexCabinet$Kind" 98
  | 34 => .string "HexCabinet$Kind" 101
  | 35 => .string "HexCabinet$Kind" 104
  | 36 => .string "HexCabinet$Kind" 107
  | 37 => .string "HexCabinet$Kind" 110
  | 38 => .string "HexCabinet$Kind" 113
  | 39 => .string "HexCabinet$Kind" 116
  | 40 => .string "HexCabinet$Kind" 119
  | 41 => .string "HexCabinet$Kind" 122
  | 42 => .string "HexCabinet$Kind" 125
  | 43 => .string "HexCabinet$Kind" 128
  | 44 => .string "HexCabinet$Kind" 131
  | 45 => .string "HexCabinet$Kind" 131
  | 50 => .string "HexCabinetLaw" 84
  | 51 => .string "HexCabinetLaw" 94
  | 52 => .string "HexCabinetLaw" 96
  | 53 => .string "HexCabinetLaw" 98
  | 54 => .string "HexCabinetLaw" 100
  | 55 => .string "HexCabinetLaw" 108
  | 64 => .field (.string "HexCabinet$Kind" 86) "java/lang/String" "value" "[B"
  | 65 => .field (.string "HexCabinet$Kind" 92) "java/lang/String" "value" "[B"
  | 66 => .field (.string "HexCabinet$Kind" 95) "java/lang/String" "value" "[B"
  | 67 => .field (.string "HexCabinet$Kind" 98) "java/lang/String" "value" "[B"
  | 68 => .field (.string "HexCabinet$Kind" 101) "java/lang/String" "value" "[B"
  | 69 => .field (.string "HexCabinet$Kind" 104) "java/lang/String" "value" "[B"
  | 70 => .field (.string "HexCabinet$Kind" 107) "java/lang/String" "value" "[B"
  | 71 => .field (.string "HexCabinet$Kind" 110) "java/lang/String" "value" "[B"
  | 72 => .field (.string "HexCabinet$Kind" 113) "java/lang/String" "value" "[B"
  | 73 => .field (.string "HexCabinet$Kind" 116) "java/lang/String" "value" "[B"
  | 74 => .field (.string "HexCabinet$Kind" 119) "java/lang/String" "value" "[B"
  | 75 => .field (.string "HexCabinet$Kind" 122) "java/lang/String" "value" "[B"
  | 76 => .field (.string "HexCabinet$Kind" 125) "java/lang/String" "value" "[B"
  | 77 => .field (.string "HexCabinet$Kind" 128) "java/lang/String" "value" "[B"
  | 78 => .field (.string "HexCabinet$Kind" 131) "java/lang/String" "value" "[B"
  | 79 => .field (.string "HexCabinet$Kind" 131) "java/lang/String" "value" "[B"
  | 82 => .field (.string "HexCabinetLaw" 84) "java/lang/String" "value" "[B"
  | 83 => .field (.string "HexCabinetLaw" 94) "java/lang/String" "value" "[B"
  | 84 => .field (.string "HexCabinetLaw" 96) "java/lang/String" "value" "[B"
  | 85 => .field (.string "HexCabinetLaw" 98) "java/lang/String" "value" "[B"
  | 86 => .field (.string "HexCabinetLaw" 100) "java/lang/String" "value" "[B"
  | 87 => .field (.string "HexCabinetLaw" 108) "java/lang/String" "value" "[B"
  | _ => .arg 0
def g_ord1 : List (Nat × List Nat) := [(0, [5, 0, 0, 0, 0, 0, 0, 0, 0, 0, 0, 0, 0, 0, 0, 0, 0, 0, 0, 0, 0, 0, 0, 0, 0, 0, 0, 0, 0, 0, 0, 0, 0, 0, 0, 0, 0, 0, 0, 0, 0, 0, 0, 0, 0, 0, 0, 0, 0, 0, 0, 0, 0, 0, 0, 0, 0, 0, 0, 0, 0, 0, 0, 0, 0, 0, 0, 0, 0, 0, 0, 0, 0, 0, 0, 0, 0, 0, 0, 0, 0, 0, 0, 0, 0, 0, 0, 0, 0, 0, 0, 0, 0]), (2, [1, 0, 0, 0, 0, 0, 0, 0, 0, 0, 0, 0, 0, 0]), (3, [3, 0, 0, 0, 0, 0, 0, 0, 0, 0, 0, 0, 0, 0]), (4, [1, 0, 0, 0]), (1, [1, 0, 0, 0, 0, 0, 0, 0, 0, 0, 0, 0, 0]), (5, [1, 0, 0, 0, 0, 0, 0, 0, 0]), (10, [7, 0, 1, 0, 0, 0, 0, 0, 0, 0, 0, 0, 0, 0, 0, 0, 0, 0]), (26, [0, 1, 0]), (27, [0, 1, 0]), (12, [1, 1, 0]), (13, [2, 1, 0]), (14, [3, 1, 0]), (15, [4, 1, 0]), (17, [5, 1, 0]), (18, [6, 1, 0]), (16, [7, 1, 0]), (25, [8, 1, 0]), (8, [10, 0, 0, 0, 0, 0, 0, 0, 0, 0, 0, 0, 0, 0, 0, 0, 0, 0, 0, 0, 0, 0, 0, 0, 0, 0, 0, 0, 0, 0, 0, 0, 0, 0, 0, 0, 0, 0, 0, 0, 0, 0, 0, 0, 0, 0, 0, 0, 0, 0, 0, 0, 0, 0, 0, 0, 0, 0, 0, 0, 0, 0, 0, 0, 0, 0, 0, 0, 0, 0, 0, 0, 0, 0, 0, 0, 0, 0, 0, 0, 0, 0, 0, 0, 0, 0, 0, 0, 0, 0, 0, 0, 0, 0, 0, 0, 0, 0, 0, 0, 0, 0]), (9, [1, 0, 0, 0, 0, 0, 0, 0, 0, 0, 0, 0, 0, 0, 0, 0, 0, 0, 0, 0, 0, 0, 0, 0, 0, 0, 0, 0, 0, 0, 0, 0, 0, 0, 0, 0, 0, 0, 0, 0, 0, 0, 0, 0, 0, 0, 0, 0, 0, 0, 0, 0, 0, 0, 0, 0, 0, 0, 0, 0, 0, 0, 0, 0, 0, 0, 0, 0, 0, 0, 0, 0, 0, 0, 0, 0, 0, 0, 0, 0, 0, 0, 0, 0, 0, 0, 0, 0, 0, 0, 0, 0, 0, 0, 0, 0, 0, 0, 0, 0, 0, 0]), (19, [0, 1, 0]), (20, [10, 1, 0]), (21, [11, 1, 0]), (22, [12, 1, 0]), (23, [13, 1, 0]), (24, [14, 1, 0]), (50, [330, 0]), (82, [0, 0, 0, 0, 0, 0, 0, 0]), (51, [0, 0]), (83, [0, 0, 0, 0, 0, 0]), (52, [0, 0]), (84, [0, 0, 0, 0, 0, 0, 0, 0]), (53, [0, 0]), (85, [0, 0, 0, 0, 0, 0, 0, 0]), (54, [0, 0]), (86, [0, 0, 0]), (55, [9, 0]), (87, [0, 0, 0, 0, 0, 0, 0, 0, 0, 0, 0, 0, 0, 0]), (44, [0, 0]), (78, [0, 0]), (30, [1, 0]), (64, [0, 0, 0, 0, 0, 0, 0]), (31, [0, 0]), (65, [0, 0, 0, 0, 0]), (32, [0, 0]), (66, [0, 0, 0, 0, 0, 0]), (33, [0, 0]), (67, [0, 0, 0, 0]), (35, [0, 0]), (69, [0, 0, 0, 0, 0, 0, 0]), (36, [0, 0]), (70, [0, 0, 0, 0, 0, 0, 0]), (34, [0, 0]), (68, [0, 0, 0, 0]), (43, [0, 0]), (77, [0, 0, 0]), (37, [1, 0]), (71, [0, 0, 0, 0, 0, 0]), (38, [1, 0]), (72, [0, 0, 0, 0, 0, 0, 0]), (39, [1, 0]), (73, [0, 0, 0, 0, 0, 0]), (40, [1, 0]), (74, [0, 0, 0, 0, 0, 0, 0, 0]), (41, [1, 0]), (75, [0, 0, 0, 0, 0, 0, 0, 0]), (42, [1, 0]), (76, [0, 0, 0, 0, 0, 0])]
def g_ord2 : List (Nat × List Nat) := [(45, [958, 0]), (79, [0, 0])]
def g_ns : List (Nat × Nat × Nat) := [(193, 14, 15), (4, 14, 0), (0, 15, 0), (4, 14, 1), (0, 15, 1), (0, 0, 1), (4, 14, 2), (0, 15, 2), (0, 0, 2), (0, 1, 2), (4, 14, 3), (0, 15, 3), (0, 0, 3), (0, 1, 3), (0, 2, 3), (4, 14, 5), (0, 15, 5), (0, 0, 5), (0, 1, 5), (0, 2, 5), (0, 3, 5), (4, 14, 6), (0, 15, 6), (0, 0, 6), (0, 1, 6), (0, 2, 6), (0, 3, 6), (0, 5, 6), (4, 14, 4), (0, 15, 4), (0, 0, 4), (0, 1, 4), (0, 2, 4), (0, 3, 4), (0, 5, 4), (0, 6, 4), (4, 14, 13), (0, 15, 13), (0, 0, 13), (0, 1, 13), (0, 2, 13), (0, 3, 13), (0, 5, 13), (0, 6, 13), (0, 4, 13), (210, 14, 7), (0, 15, 7), (0, 0, 7), (0, 1, 7), (0, 2, 7), (0, 3, 7), (0, 5, 7), (0, 6, 7), (0, 4, 7), (0, 13, 7), (4, 14, 8), (0, 15, 8), (0, 0, 8), (0, 1, 8), (0, 2, 8), (0, 3, 8), (0, 5, 8), (0, 6, 8), (0, 4, 8), (0, 13, 8), (0, 7, 8), (4, 14, 9), (0, 15, 9), (0, 0, 9), (0, 1, 9), (0, 2, 9), (0, 3, 9), (0, 5, 9), (0, 6, 9), (0, 4, 9), (0, 13, 9), (0, 7, 9), (0, 8, 9), (4, 14, 10), (0, 15, 10), (0, 0, 10), (0, 1, 10), (0, 2, 10), (0, 3, 10), (0, 5, 10), (0, 6, 10), (0, 4, 10), (0, 13, 10), (0, 7, 10), (0, 8, 10), (0, 9, 10), (4, 14, 11), (0, 15, 11), (0, 0, 11), (0, 1, 11), (0, 2, 11), (0, 3, 11), (0, 5, 11), (0, 6, 11), (0, 4, 11), (0, 13, 11), (0, 7, 11), (0, 8, 11), (0, 9, 11), (0, 10, 11), (4, 14, 12), (0, 15, 12), (0, 0, 12), (0, 1, 12), (0, 2, 12), (0, 3, 12), (0, 5, 12), (0, 6, 12), (0, 4, 12), (0, 13, 12), (0, 7, 12), (0, 8, 12), (0, 9, 12), (0, 10, 12), (0, 11, 12)]
def g_msk : List Nat := [113, 0, 44, 0, 0]
def g_msw : List Cond := [.isRef (.static "java/lang/Throwable" "UNASSIGNED_STACK" "[Ljava/lang/StackTraceElement;"), .isRef (.static "java/lang/Throwable" "SUPPRESSED_SENTINEL" "Ljava/util/List;"), .eq (.static "java/lang/String" "COMPACT_STRINGS" "Z") (.int 1), .isRef (.static "jdk/internal/util/Preconditions" "SIOOBE_FORMATTER" "Ljava/util/function/BiFunction;"), .eq (.static "java/lang/StringUTF16" "$assertionsDisabled" "Z") (.int 1)]
def g_stk : List (Nat × Nat) := [(575, 87), (16, 98), (41, 109), (15, 131), (22, 136), (30, 142), (16, 150), (23, 166), (15, 155), (23, 67), (31, 56)]
def g_lqk : List (Nat × Nat × Nat) := [(962, 49, 44), (59, 106, 43), (8, 61, 37), (9, 63, 38), (8, 65, 39), (10, 67, 40), (10, 69, 41), (8, 71, 42)]
/-- which references it holds -/
def g_rf (a j : Nat) : Nat := (p_roF a j).getD 0
def g_arr (a : Nat) (ty : FieldType) : List Cond := .arrayOf (g_tm a) ty :: .eq (.length (g_tm a)) (.int (Int32.ofNat (p_roT a).2)) :: (List.range (p_roT a).2).map (fun j => .eq (.elem (g_tm a) (.int (Int32.ofNat j))) (.int (iI (p_roM a j))))
def g_row (a : Nat) (C : String) : List Cond := .arrayOf (g_tm a) (.object C) :: .eq (.length (g_tm a)) (.int (Int32.ofNat (p_roT a).2)) :: (List.range (p_roT a).2).map (fun j => .eq (.elem (g_tm a) (.int (Int32.ofNat j))) (g_tm (g_rf a j)))
def g_need (a : Nat) : List Cond :=
  if (p_roT a).1 = 90 then g_arr a .int else if (p_roT a).1 = 93 then g_arr a .byte else if (p_roT a).1 = 91 then g_row a s_KC else if (p_roT a).1 = 95 then g_row a s_SC
  else if (p_roT a).1 = 12 then [.exactly (g_tm a) s_KC, .eq (.field (g_tm a) s_KC "text" "Ljava/lang/String;") (g_tm (g_rf a 0)), .eq (.field (g_tm a) s_KC "number" "I") (.int (iI (p_roM a 1)))]
  else if (p_roT a).1 = 21 then [.exactly (g_tm a) s_SC, .eq (.field (g_tm a) s_SC "coder" "B") (.int (iI (p_roM a 1)))] else []
def g_eat : List Nat → List Cond → List Cond → Option (List Cond)
  | [], [], l => some l
  | k :: ks, w :: ws, l => match l.drop k with
    | a :: l' => if a = w then g_eat ks ws l' else none
    | [] => none
  | _, _, _ => none
def g_eats : List (Nat × List Nat) → List Cond → Bool
  | [], _ => true
  | (a, ks) :: r, l => match g_eat ks (g_need a) l with
    | some l' => g_eats r l'
    | none => false
theorem g_eat_sub : ∀ (ks : List Nat) (ws l l' : List Cond), g_eat ks ws l = some l' → (∀ w ∈ ws, w ∈ l) ∧ ∀ w ∈ l', w ∈ l
  | [], [], l, l', h => by cases h; exact ⟨fun w hw => (nomatch hw), fun w hw => hw⟩
  | k :: ks, w :: ws, l, l', h => by
    rw [g_eat] at h
    cases hd : l.drop k with
    | nil => rw [hd] at h; cases h
    | cons a l2 =>
      rw [hd] at h
      dsimp only at h
      have hsub : ∀ z ∈ a :: l2, z ∈ l := fun z hz => List.mem_of_mem_drop (by rw [hd]; exact hz)
      by_cases e : a = w
      · rw [if_pos e] at h
        obtain ⟨h1, h2⟩ := g_eat_sub ks ws l2 l' h
        refine ⟨fun z hz => ?_, fun z hz => hsub z (List.mem_cons_of_mem _ (h2 z hz))⟩
        rcases List.mem_cons.mp hz with rfl | hz
        · exact hsub _ (by rw [e]; exact List.mem_cons_self)
        · exact hsub z (List.mem_cons_of_mem _ (h1 z hz))
      · rw [if_neg e] at h; cases h
  | [], w :: ws, l, l', h => by cases h
  | k :: ks, [], l, l', h => by cases h
theorem g_eats_sub : ∀ (r : List (Nat × List Nat)) (l : List Cond), g_eats r l = true → ∀ q ∈ r, ∀ w ∈ g_need q.1, w ∈ l
  | [], l, h, q, hq => by cases hq
  | (a, ks) :: r, l, h, q, hq => by
    rw [g_eats] at h
    cases hd : g_eat ks (g_need a) l with
    | none => rw [hd] at h; cases h
    | some l' =>
      rw [hd] at h
      obtain ⟨h1, h2⟩ := g_eat_sub _ _ _ _ hd
      rcases List.mem_cons.mp hq with rfl | hq
      · exact h1
      · exact fun w hw => h2 w (g_eats_sub r l' h q hq w hw)
def g_fl : List Cond := flatC (.and given_1 narrow_1)
set_option maxRecDepth 20000 in
theorem g_ok1 : g_eats g_ord1 g_fl = true := by decide +kernel
set_option maxRecDepth 20000 in
theorem g_ok2 : g_eats g_ord2 g_fl = true := by decide +kernel
theorem g_all : ∀ a, a < 100 → a ≠ 29 → (p_roT a).1 ≠ 0 → a ∈ g_ord1.map Prod.fst ∨ a ∈ g_ord2.map Prod.fst := by decide +kernel
theorem g_in {a : Nat} (h1 : a < 100) (h2 : a ≠ 29) (h0 : (p_roT a).1 ≠ 0) : ∀ w ∈ g_need a, w ∈ g_fl := by
  rcases g_all a h1 h2 h0 with h | h
  · obtain ⟨q, hq, rfl⟩ := List.mem_map.mp h
    exact g_eats_sub _ _ g_ok1 q hq
  · obtain ⟨q, hq, rfl⟩ := List.mem_map.mp h
    exact g_eats_sub _ _ g_ok2 q hq
theorem g_eat1 {ks : List Nat} {ws : List Cond} (h : (g_eat ks ws g_fl).isSome = true) : ∀ w ∈ ws, w ∈ g_fl := by
  obtain ⟨l', hl⟩ := Option.isSome_iff_exists.mp h
  exact (g_eat_sub _ _ _ _ hl).1
set_option maxRecDepth 20000 in
theorem g_nsok : (g_eat (g_ns.map (fun q => q.1)) (g_ns.map (fun q => Cond.not (.eq (g_tm (12 + q.2.1)) (g_tm (12 + q.2.2))))) g_fl).isSome = true := by decide +kernel
def g_has (l : List (Nat × Nat × Nat)) (i j : Nat) : Bool := l.any (fun q => decide (q.2.1 = i) && decide (q.2.2 = j))
theorem g_has_of {l : List (Nat × Nat × Nat)} {i j : Nat} (h : g_has l i j = true) : ∃ q ∈ l, q.2.1 = i ∧ q.2.2 = j := by
  obtain ⟨q, hq, h1⟩ := List.any_eq_true.mp h
  rw [Bool.and_eq_true] at h1
  exact ⟨q, hq, of_decide_eq_true h1.1, of_decide_eq_true h1.2⟩
theorem g_nsall : ∀ i, i < 16 → ∀ j, j < 16 → i ≠ j → (g_has g_ns i j || g_has g_ns j i) = true := by decide +kernel
theorem g_ns1 {i j : Nat} (h : g_has g_ns i j = true) : (.not (.eq (g_tm (12 + i)) (g_tm (12 + j)))) ∈ g_fl := by
  obtain ⟨q, hq, rfl, rfl⟩ := g_has_of h
  exact g_eat1 g_nsok _ (List.mem_map.mpr ⟨q, hq, rfl⟩)
theorem g_neq (i : Nat) (hi : i < 16) (j : Nat) (hj : j < 16) (h : i ≠ j) : (.not (.eq (g_tm (12 + i)) (g_tm (12 + j)))) ∈ g_fl ∨ (.not (.eq (g_tm (12 + j)) (g_tm (12 + i)))) ∈ g_fl := by
  have h1 := g_nsall i hi j hj h
  rw [Bool.or_eq_true] at h1
  rcases h1 with h | h
  · exact Or.inl (g_ns1 h)
  · exact Or.inr (g_ns1 h)
set_option maxRecDepth 20000 in
theorem g_msok : (g_eat g_msk g_msw g_fl).isSome = true := by decide +kernel
theorem g_isr : ∀ w ∈ [Cond.isRef (.static "jdk/internal/util/Preconditions" "SIOOBE_FORMATTER" "Ljava/util/function/BiFunction;"), Cond.isRef (.static Bundle.tN "UNASSIGNED_STACK" Bundle.steD), Cond.isRef (.static Bundle.tN "SUPPRESSED_SENTINEL" Bundle.listD), Cond.eq (.static "java/lang/String" "COMPACT_STRINGS" "Z") (.int 1), Cond.eq (.static "java/lang/StringUTF16" "$assertionsDisabled" "Z") (.int 1)], w ∈ g_fl := fun w hw => g_eat1 g_msok w ((by decide +kernel : ∀ w ∈ [Cond.isRef (.static "jdk/internal/util/Preconditions" "SIOOBE_FORMATTER" "Ljava/util/function/BiFunction;"), Cond.isRef (.static Bundle.tN "UNASSIGNED_STACK" Bundle.steD), Cond.isRef (.static Bundle.tN "SUPPRESSED_SENTINEL" Bundle.listD), Cond.eq (.static "java/lang/String" "COMPACT_STRINGS" "Z") (.int 1), Cond.eq (.static "java/lang/StringUTF16" "$assertionsDisabled" "Z") (.int 1)], w ∈ g_msw) w hw)
set_option maxRecDepth 20000 in
theorem g_stok : (g_eat (g_stk.map (fun q => q.1)) (g_stk.map (fun q => Cond.exactly (.string "HexCabinet" q.2) s_SC)) g_fl).isSome = true := by decide +kernel
theorem g_stall : p_str.all (fun q => decide (q.1 = "HexCabinet") && g_stk.any (fun z => decide (z.2 = q.2.1))) = true := by decide +kernel
theorem g_str1 {q : String × Nat × String} (hq : q ∈ p_str) : Cond.exactly (.string q.1 q.2.1) s_SC ∈ g_fl := by
  have h := List.all_eq_true.mp g_stall q hq
  rw [Bool.and_eq_true] at h
  obtain ⟨z, hz, e⟩ := List.any_eq_true.mp h.2
  rw [of_decide_eq_true h.1, ← of_decide_eq_true e]
  exact g_eat1 g_stok _ (List.mem_map.mpr ⟨z, hz, rfl⟩)
set_option maxRecDepth 20000 in
theorem g_lqok : (g_eat (g_lqk.map (fun q => q.1)) (g_lqk.map (fun q => Cond.eq (.string "HexCabinetLaw" q.2.1) (g_tm q.2.2))) g_fl).isSome = true := by decide +kernel
theorem g_lqall : p_lq.all (fun q => (decide (g_tm q.2.2 = .string "HexCabinetLaw" q.1) || g_lqk.any (fun z => decide (z.2.1 = q.1) && decide (z.2.2 = q.2.2))) && decide (q.2.2 < 100) && decide (q.2.2 ≠ 29) && decide ((p_roT q.2.2).1 ≠ 0)) = true := by decide +kernel

end PT1
