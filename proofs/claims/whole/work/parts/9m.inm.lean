section PINM
variable {d n : Nat} {T T1 : pT} {M M1 : pM} {F F1 : pF}
theorem nB {α : Type} (X : Nat → Int → α) (f h : Int → α) {r : Nat} (hr : 127 < r) : uA (uA X 127 f) r h = uA (uA X r h) 127 f := nA X f h hr
/-- the model's cells are laid -/
theorem i_lay (t0 : p_ty T 127 = (18, 24)) (hn : T.1.1 = 128) (hM : M 127 = fun _ => 0) : ∃ T' M' F', (∀ e, 5 ≤ e → R e m_X8_init 0 [.val (.ref 127), .unset, .unset, .unset, .unset] [] T M F = R e m_X8_init 151 [.val (.ref 127), .unset, .unset, .unset, .unset] [] T' M' F') ∧ T'.1.1 = 144 ∧ T'.1.2 = T.1.2 + 10393 ∧ YT T' F' 134 135 448 ∧ s_mono T T' ∧ (∀ a, a < 127 → M' a = M a ∧ F' a = F a) ∧ (∀ a, 128 ≤ a → a < 144 → M' a = fun _ => 0) ∧ (∀ j, j ≠ 3 → j ≠ 11 → M' 127 j = 0) ∧ M' 127 3 = -1 ∧ M' 127 11 = -1 := by
  obtain ⟨T128, h128⟩ : ∃ T' : pT, T' = p_new T 1 2000 := ⟨_, rfl⟩
  have m128 : s_mono T T128 := by rw [h128]; exact s_mono.new
  have q128 : T128.1.1 = 129 := by rw [h128, p_nn, hn]
  have v128 : p_ty T128 128 = (1, 2000) := by rw [h128]; exact p_tw hn (by omega)
  have w128 : p_ty T128 127 = (18, 24) := (m128.2.2 127 (by omega)).trans t0
  obtain ⟨T129, h129⟩ : ∃ T' : pT, T' = p_new T128 1 91 := ⟨_, rfl⟩
  have m129 : s_mono T128 T129 := by rw [h129]; exact s_mono.new
  have q129 : T129.1.1 = 130 := by rw [h129, p_nn, q128]
  have v129 : p_ty T129 129 = (1, 91) := by rw [h129]; exact p_tw q128 (by omega)
  have w129 : p_ty T129 127 = (18, 24) := (m129.2.2 127 (by omega)).trans w128
  obtain ⟨T130, h130⟩ : ∃ T' : pT, T' = p_new T129 1 91 := ⟨_, rfl⟩
  have m130 : s_mono T129 T130 := by rw [h130]; exact s_mono.new
  have q130 : T130.1.1 = 131 := by rw [h130, p_nn, q129]
  have v130 : p_ty T130 130 = (1, 91) := by rw [h130]; exact p_tw q129 (by omega)
  have w130 : p_ty T130 127 = (18, 24) := (m130.2.2 127 (by omega)).trans w129
  obtain ⟨T131, h131⟩ : ∃ T' : pT, T' = p_new T130 1 12 := ⟨_, rfl⟩
  have m131 : s_mono T130 T131 := by rw [h131]; exact s_mono.new
  have q131 : T131.1.1 = 132 := by rw [h131, p_nn, q130]
  have v131 : p_ty T131 131 = (1, 12) := by rw [h131]; exact p_tw q130 (by omega)
  have w131 : p_ty T131 127 = (18, 24) := (m131.2.2 127 (by omega)).trans w130
  obtain ⟨T132, h132⟩ : ∃ T' : pT, T' = p_new T131 1 1092 := ⟨_, rfl⟩
  have m132 : s_mono T131 T132 := by rw [h132]; exact s_mono.new
  have q132 : T132.1.1 = 133 := by rw [h132, p_nn, q131]
  have v132 : p_ty T132 132 = (1, 1092) := by rw [h132]; exact p_tw q131 (by omega)
  have w132 : p_ty T132 127 = (18, 24) := (m132.2.2 127 (by omega)).trans w131
  obtain ⟨T133, h133⟩ : ∃ T' : pT, T' = p_new T132 1 1092 := ⟨_, rfl⟩
  have m133 : s_mono T132 T133 := by rw [h133]; exact s_mono.new
  have q133 : T133.1.1 = 134 := by rw [h133, p_nn, q132]
  have v133 : p_ty T133 133 = (1, 1092) := by rw [h133]; exact p_tw q132 (by omega)
  have w133 : p_ty T133 127 = (18, 24) := (m133.2.2 127 (by omega)).trans w132
  obtain ⟨T134, h134⟩ : ∃ T' : pT, T' = p_new T133 1 91 := ⟨_, rfl⟩
  have m134 : s_mono T133 T134 := by rw [h134]; exact s_mono.new
  have q134 : T134.1.1 = 135 := by rw [h134, p_nn, q133]
  have v134 : p_ty T134 134 = (1, 91) := by rw [h134]; exact p_tw q133 (by omega)
  have w134 : p_ty T134 127 = (18, 24) := (m134.2.2 127 (by omega)).trans w133
  obtain ⟨T135, h135⟩ : ∃ T' : pT, T' = p_new T134 1 448 := ⟨_, rfl⟩
  have m135 : s_mono T134 T135 := by rw [h135]; exact s_mono.new
  have q135 : T135.1.1 = 136 := by rw [h135, p_nn, q134]
  have v135 : p_ty T135 135 = (1, 448) := by rw [h135]; exact p_tw q134 (by omega)
  have w135 : p_ty T135 127 = (18, 24) := (m135.2.2 127 (by omega)).trans w134
  obtain ⟨T136, h136⟩ : ∃ T' : pT, T' = p_new T135 2 91 := ⟨_, rfl⟩
  have m136 : s_mono T135 T136 := by rw [h136]; exact s_mono.new
  have q136 : T136.1.1 = 137 := by rw [h136, p_nn, q135]
  have v136 : p_ty T136 136 = (2, 91) := by rw [h136]; exact p_tw q135 (by omega)
  have w136 : p_ty T136 127 = (18, 24) := (m136.2.2 127 (by omega)).trans w135
  obtain ⟨T137, h137⟩ : ∃ T' : pT, T' = p_new T136 1 2000 := ⟨_, rfl⟩
  have m137 : s_mono T136 T137 := by rw [h137]; exact s_mono.new
  have q137 : T137.1.1 = 138 := by rw [h137, p_nn, q136]
  have v137 : p_ty T137 137 = (1, 2000) := by rw [h137]; exact p_tw q136 (by omega)
  have w137 : p_ty T137 127 = (18, 24) := (m137.2.2 127 (by omega)).trans w136
  obtain ⟨T138, h138⟩ : ∃ T' : pT, T' = p_new T137 1 2000 := ⟨_, rfl⟩
  have m138 : s_mono T137 T138 := by rw [h138]; exact s_mono.new
  have q138 : T138.1.1 = 139 := by rw [h138, p_nn, q137]
  have v138 : p_ty T138 138 = (1, 2000) := by rw [h138]; exact p_tw q137 (by omega)
  have w138 : p_ty T138 127 = (18, 24) := (m138.2.2 127 (by omega)).trans w137
  obtain ⟨T139, h139⟩ : ∃ T' : pT, T' = p_new T138 1 91 := ⟨_, rfl⟩
  have m139 : s_mono T138 T139 := by rw [h139]; exact s_mono.new
  have q139 : T139.1.1 = 140 := by rw [h139, p_nn, q138]
  have v139 : p_ty T139 139 = (1, 91) := by rw [h139]; exact p_tw q138 (by omega)
  have w139 : p_ty T139 127 = (18, 24) := (m139.2.2 127 (by omega)).trans w138
  obtain ⟨T140, h140⟩ : ∃ T' : pT, T' = p_new T139 1 91 := ⟨_, rfl⟩
  have m140 : s_mono T139 T140 := by rw [h140]; exact s_mono.new
  have q140 : T140.1.1 = 141 := by rw [h140, p_nn, q139]
  have v140 : p_ty T140 140 = (1, 91) := by rw [h140]; exact p_tw q139 (by omega)
  have w140 : p_ty T140 127 = (18, 24) := (m140.2.2 127 (by omega)).trans w139
  obtain ⟨T141, h141⟩ : ∃ T' : pT, T' = p_new T140 1 401 := ⟨_, rfl⟩
  have m141 : s_mono T140 T141 := by rw [h141]; exact s_mono.new
  have q141 : T141.1.1 = 142 := by rw [h141, p_nn, q140]
  have v141 : p_ty T141 141 = (1, 401) := by rw [h141]; exact p_tw q140 (by omega)
  have w141 : p_ty T141 127 = (18, 24) := (m141.2.2 127 (by omega)).trans w140
  obtain ⟨T142, h142⟩ : ∃ T' : pT, T' = p_new T141 1 401 := ⟨_, rfl⟩
  have m142 : s_mono T141 T142 := by rw [h142]; exact s_mono.new
  have q142 : T142.1.1 = 143 := by rw [h142, p_nn, q141]
  have v142 : p_ty T142 142 = (1, 401) := by rw [h142]; exact p_tw q141 (by omega)
  have w142 : p_ty T142 127 = (18, 24) := (m142.2.2 127 (by omega)).trans w141
  obtain ⟨T143, h143⟩ : ∃ T' : pT, T' = p_new T142 1 401 := ⟨_, rfl⟩
  have m143 : s_mono T142 T143 := by rw [h143]; exact s_mono.new
  have q143 : T143.1.1 = 144 := by rw [h143, p_nn, q142]
  have v143 : p_ty T143 143 = (1, 401) := by rw [h143]; exact p_tw q142 (by omega)
  have w143 : p_ty T143 127 = (18, 24) := (m143.2.2 127 (by omega)).trans w142
  have n143 : s_mono T143 T143 := s_mono.rf
  have n142 : s_mono T142 T143 := m143.tr n143
  have n141 : s_mono T141 T143 := m142.tr n142
  have n140 : s_mono T140 T143 := m141.tr n141
  have n139 : s_mono T139 T143 := m140.tr n140
  have n138 : s_mono T138 T143 := m139.tr n139
  have n137 : s_mono T137 T143 := m138.tr n138
  have n136 : s_mono T136 T143 := m137.tr n137
  have n135 : s_mono T135 T143 := m136.tr n136
  have n134 : s_mono T134 T143 := m135.tr n135
  have n133 : s_mono T133 T143 := m134.tr n134
  have n132 : s_mono T132 T143 := m133.tr n133
  have n131 : s_mono T131 T143 := m132.tr n132
  have n130 : s_mono T130 T143 := m131.tr n131
  have n129 : s_mono T129 T143 := m130.tr n130
  have n128 : s_mono T128 T143 := m129.tr n129
  obtain ⟨M', hM'⟩ : ∃ M' : pM, M' = uA (uA (uA (uA (uA (uA (uA (uA (uA (uA (uA (uA (uA (uA (uA (uA (uA (M) 128 (fun _ => 0)) 129 (fun _ => 0)) 130 (fun _ => 0)) 131 (fun _ => 0)) 132 (fun _ => 0)) 133 (fun _ => 0)) 134 (fun _ => 0)) 135 (fun _ => 0)) 136 (fun _ => 0)) 137 (fun _ => 0)) 138 (fun _ => 0)) 139 (fun _ => 0)) 140 (fun _ => 0)) 141 (fun _ => 0)) 142 (fun _ => 0)) 143 (fun _ => 0)) 127 (u1 (u1 (M 127) 3 (-1)) 11 (-1)) := ⟨_, rfl⟩
  obtain ⟨F', hF'⟩ : ∃ F' : pF, F' = uA (uA (uA (uA (uA (uA (uA (uA (uA (uA (uA (uA (uA (uA (uA (uA (uA (F) 128 (fun _ => none)) 129 (fun _ => none)) 130 (fun _ => none)) 131 (fun _ => none)) 132 (fun _ => none)) 133 (fun _ => none)) 134 (fun _ => none)) 135 (fun _ => none)) 136 (fun _ => none)) 137 (fun _ => none)) 138 (fun _ => none)) 139 (fun _ => none)) 140 (fun _ => none)) 141 (fun _ => none)) 142 (fun _ => none)) 143 (fun _ => none)) 127 (u1 (u1 (u1 (u1 (u1 (u1 (u1 (u1 (u1 (u1 (u1 (u1 (u1 (u1 (u1 (u1 (F 127) 1 (some 128)) 4 (some 129)) 5 (some 130)) 6 (some 131)) 7 (some 132)) 8 (some 133)) 9 (some 134)) 13 (some 135)) 15 (some 136)) 16 (some 137)) 17 (some 138)) 18 (some 139)) 19 (some 140)) 20 (some 141)) 21 (some 142)) 22 (some 143)) := ⟨_, rfl⟩
  have f127 : F' 127 = u1 (u1 (u1 (u1 (u1 (u1 (u1 (u1 (u1 (u1 (u1 (u1 (u1 (u1 (u1 (u1 (F 127) 1 (some 128)) 4 (some 129)) 5 (some 130)) 6 (some 131)) 7 (some 132)) 8 (some 133)) 9 (some 134)) 13 (some 135)) 15 (some 136)) 16 (some 137)) 17 (some 138)) 18 (some 139)) 19 (some 140)) 20 (some 141)) 21 (some 142)) 22 (some 143) := by rw [hF', uA_s]
  have e127 : M' 127 = u1 (u1 (M 127) 3 (-1)) 11 (-1) := by rw [hM', uA_s]
  refine ⟨T143, M', F', fun e he => ?_, q143, ?_, ⟨w143, (n128.2.2 _ (by omega)).trans v128, ?f128, (n129.2.2 _ (by omega)).trans v129, ?f129, (n130.2.2 _ (by omega)).trans v130, ?f130, (n131.2.2 _ (by omega)).trans v131, ?f131, (n132.2.2 _ (by omega)).trans v132, ?f132, (n133.2.2 _ (by omega)).trans v133, ?f133, (n136.2.2 _ (by omega)).trans v136, ?f136, (n137.2.2 _ (by omega)).trans v137, ?f137, (n138.2.2 _ (by omega)).trans v138, ?f138, (n139.2.2 _ (by omega)).trans v139, ?f139, (n140.2.2 _ (by omega)).trans v140, ?f140, (n141.2.2 _ (by omega)).trans v141, ?f141, (n142.2.2 _ (by omega)).trans v142, ?f142, (n143.2.2 _ (by omega)).trans v143, ?f143, by omega, (n134.2.2 _ (by omega)).trans v134, ?f134, by omega, (n135.2.2 _ (by omega)).trans v135, ?f135, Nat.le_refl _⟩, m128.tr n128, fun a ha => ⟨?_, ?_⟩, fun a h1 h2 => ?_, fun j h1 h2 => ?_, ?_, ?_⟩
  case f128 => rw [f127, u1_n (by decide), u1_n (by decide), u1_n (by decide), u1_n (by decide), u1_n (by decide), u1_n (by decide), u1_n (by decide), u1_n (by decide), u1_n (by decide), u1_n (by decide), u1_n (by decide), u1_n (by decide), u1_n (by decide), u1_n (by decide), u1_n (by decide), u1_s]
  case f129 => rw [f127, u1_n (by decide), u1_n (by decide), u1_n (by decide), u1_n (by decide), u1_n (by decide), u1_n (by decide), u1_n (by decide), u1_n (by decide), u1_n (by decide), u1_n (by decide), u1_n (by decide), u1_n (by decide), u1_n (by decide), u1_n (by decide), u1_s]
  case f130 => rw [f127, u1_n (by decide), u1_n (by decide), u1_n (by decide), u1_n (by decide), u1_n (by decide), u1_n (by decide), u1_n (by decide), u1_n (by decide), u1_n (by decide), u1_n (by decide), u1_n (by decide), u1_n (by decide), u1_n (by decide), u1_s]
  case f131 => rw [f127, u1_n (by decide), u1_n (by decide), u1_n (by decide), u1_n (by decide), u1_n (by decide), u1_n (by decide), u1_n (by decide), u1_n (by decide), u1_n (by decide), u1_n (by decide), u1_n (by decide), u1_n (by decide), u1_s]
  case f132 => rw [f127, u1_n (by decide), u1_n (by decide), u1_n (by decide), u1_n (by decide), u1_n (by decide), u1_n (by decide), u1_n (by decide), u1_n (by decide), u1_n (by decide), u1_n (by decide), u1_n (by decide), u1_s]
  case f133 => rw [f127, u1_n (by decide), u1_n (by decide), u1_n (by decide), u1_n (by decide), u1_n (by decide), u1_n (by decide), u1_n (by decide), u1_n (by decide), u1_n (by decide), u1_n (by decide), u1_s]
  case f136 => rw [f127, u1_n (by decide), u1_n (by decide), u1_n (by decide), u1_n (by decide), u1_n (by decide), u1_n (by decide), u1_n (by decide), u1_s]
  case f137 => rw [f127, u1_n (by decide), u1_n (by decide), u1_n (by decide), u1_n (by decide), u1_n (by decide), u1_n (by decide), u1_s]
  case f138 => rw [f127, u1_n (by decide), u1_n (by decide), u1_n (by decide), u1_n (by decide), u1_n (by decide), u1_s]
  case f139 => rw [f127, u1_n (by decide), u1_n (by decide), u1_n (by decide), u1_n (by decide), u1_s]
  case f140 => rw [f127, u1_n (by decide), u1_n (by decide), u1_n (by decide), u1_s]
  case f141 => rw [f127, u1_n (by decide), u1_n (by decide), u1_s]
  case f142 => rw [f127, u1_n (by decide), u1_s]
  case f143 => rw [f127, u1_s]
  case f134 => rw [f127, u1_n (by decide), u1_n (by decide), u1_n (by decide), u1_n (by decide), u1_n (by decide), u1_n (by decide), u1_n (by decide), u1_n (by decide), u1_n (by decide), u1_s]
  case f135 => rw [f127, u1_n (by decide), u1_n (by decide), u1_n (by decide), u1_n (by decide), u1_n (by decide), u1_n (by decide), u1_n (by decide), u1_n (by decide), u1_s]
  · rw [hM', hF']
    have z2000 : (2000 : Int).toNat = 2000 := rfl
    have z91 : (91 : Int).toNat = 91 := rfl
    have z12 : (12 : Int).toNat = 12 := rfl
    have z1092 : (1092 : Int).toNat = 1092 := rfl
    have z448 : (448 : Int).toNat = 448 := rfl
    have z401 : (401 : Int).toNat = 401 := rfl
    have h128' := h128.symm
    have h129' := h129.symm
    have h130' := h130.symm
    have h131' := h131.symm
    have h132' := h132.symm
    have h133' := h133.symm
    have h134' := h134.symm
    have h135' := h135.symm
    have h136' := h136.symm
    have h137' := h137.symm
    have h138' := h138.symm
    have h139' := h139.symm
    have h140' := h140.symm
    have h141' := h141.symm
    have h142' := h142.symm
    have h143' := h143.symm
    clear hM' hF' f127 e127 m128 v128 n128 m129 v129 n129 m130 v130 n130 m131 v131 n131 m132 v132 n132 m133 v133 n133 m134 v134 n134 m135 v135 n135 m136 v136 n136 m137 v137 n137 m138 v138 n138 m139 v139 n139 m140 v140 n140 m141 v141 n141 m142 v142 n142 m143 v143 n143
    simp (disch := omega) only [x_X8_init_0, x_X8_init_1, x_X8_init_4, x_X8_init_5, x_X8_init_8, x_X8_init_10, x_X8_init_13, x_X8_init_14, x_X8_init_15, x_X8_init_18, x_X8_init_19, x_X8_init_21, x_X8_init_23, x_X8_init_26, x_X8_init_27, x_X8_init_29, x_X8_init_31, x_X8_init_34, x_X8_init_35, x_X8_init_37, x_X8_init_39, x_X8_init_42, x_X8_init_43, x_X8_init_46, x_X8_init_48, x_X8_init_51, x_X8_init_52, x_X8_init_55, x_X8_init_57, x_X8_init_60, x_X8_init_61, x_X8_init_63, x_X8_init_65, x_X8_init_68, x_X8_init_69, x_X8_init_70, x_X8_init_73, x_X8_init_74, x_X8_init_77, x_X8_init_79, x_X8_init_82, x_X8_init_83, x_X8_init_85, x_X8_init_87, x_X8_init_90, x_X8_init_91, x_X8_init_94, x_X8_init_96, x_X8_init_99, x_X8_init_100, x_X8_init_103, x_X8_init_105, x_X8_init_108, x_X8_init_109, x_X8_init_111, x_X8_init_113, x_X8_init_116, x_X8_init_117, x_X8_init_119, x_X8_init_121, x_X8_init_124, x_X8_init_125, x_X8_init_128, x_X8_init_130, x_X8_init_133, x_X8_init_134, x_X8_init_137, x_X8_init_139, x_X8_init_142, x_X8_init_143, x_X8_init_146, x_X8_init_148, List.length_cons, List.length_nil, Nat.reduceLeDiff, Nat.zero_add, iI_add, iI_sub, iI_mul, iI_neg, iI_lt, iI_le, iI_eq, jI_iI, B_True, B_False, B_t, B_f, ck_True, gd_True, cb_v, cb_n, p_mv_rw, p_fv_rw, p_rv_some, pA_1, pA_90, pA_92, pA_3, pA_2, pA_93, pA_4, pA_91, pA_95, pS_i, pW_i, pZ_0, pZ_1, pZ_b, bI_e0, u1_s, u1_n, uA_s, uA_n, true_and, and_true, not_true_eq_false, not_false_eq_true, eq_self, iI_z, al1, al2, al3, al4, al90, al91, al92, al93, al95, Int.cast_ofNat_Int, Nat.reduceAdd, Int.reduceNeg, Int.reduceAdd, Int.reduceSub, Int.reduceMul, Int.reduceLT, Int.reduceLE, Int.reduceGT, Int.reduceGE, Int.reduceEq, Int.reduceNe, Nat.reduceEqDiff, Int.zero_add, Int.add_zero, p_ty0, p_ty1, p_ty2, p_ty3, p_ty4, p_ty5, p_ty6, p_ty7, p_ty8, p_ty9, p_ty10, p_ty11, t0, hn, q128, w128, q129, w129, q130, w130, q131, w131, q132, w132, q133, w133, q134, w134, q135, w135, q136, w136, q137, w137, q138, w138, q139, w139, q140, w140, q141, w141, q142, w142, q143, w143, h128', h129', h130', h131', h132', h133', h134', h135', h136', h137', h138', h139', h140', h141', h142', h143', z2000, z91, z12, z1092, z448, z401, nB, uA_uA, gd_t, ck_t]
  · rw [h143, h142, h141, h140, h139, h138, h137, h136, h135, h134, h133, h132, h131, h130, h129, h128]
    show T.1.2 + 2000 + 91 + 91 + 12 + 1092 + 1092 + 91 + 448 + 91 + 2000 + 2000 + 91 + 91 + 401 + 401 + 401 = _; omega
  · rw [hM', uA_n (by omega), uA_n (by omega), uA_n (by omega), uA_n (by omega), uA_n (by omega), uA_n (by omega), uA_n (by omega), uA_n (by omega), uA_n (by omega), uA_n (by omega), uA_n (by omega), uA_n (by omega), uA_n (by omega), uA_n (by omega), uA_n (by omega), uA_n (by omega), uA_n (by omega)]
  · rw [hF', uA_n (by omega), uA_n (by omega), uA_n (by omega), uA_n (by omega), uA_n (by omega), uA_n (by omega), uA_n (by omega), uA_n (by omega), uA_n (by omega), uA_n (by omega), uA_n (by omega), uA_n (by omega), uA_n (by omega), uA_n (by omega), uA_n (by omega), uA_n (by omega), uA_n (by omega)]
  · have ha : a = 128 ∨ a = 129 ∨ a = 130 ∨ a = 131 ∨ a = 132 ∨ a = 133 ∨ a = 134 ∨ a = 135 ∨ a = 136 ∨ a = 137 ∨ a = 138 ∨ a = 139 ∨ a = 140 ∨ a = 141 ∨ a = 142 ∨ a = 143 := by omega
    rw [hM', uA_n (by omega)]
    rcases ha with rfl | rfl | rfl | rfl | rfl | rfl | rfl | rfl | rfl | rfl | rfl | rfl | rfl | rfl | rfl | rfl
    · rw [uA_n (by omega), uA_n (by omega), uA_n (by omega), uA_n (by omega), uA_n (by omega), uA_n (by omega), uA_n (by omega), uA_n (by omega), uA_n (by omega), uA_n (by omega), uA_n (by omega), uA_n (by omega), uA_n (by omega), uA_n (by omega), uA_n (by omega), uA_s]
    · rw [uA_n (by omega), uA_n (by omega), uA_n (by omega), uA_n (by omega), uA_n (by omega), uA_n (by omega), uA_n (by omega), uA_n (by omega), uA_n (by omega), uA_n (by omega), uA_n (by omega), uA_n (by omega), uA_n (by omega), uA_n (by omega), uA_s]
    · rw [uA_n (by omega), uA_n (by omega), uA_n (by omega), uA_n (by omega), uA_n (by omega), uA_n (by omega), uA_n (by omega), uA_n (by omega), uA_n (by omega), uA_n (by omega), uA_n (by omega), uA_n (by omega), uA_n (by omega), uA_s]
    · rw [uA_n (by omega), uA_n (by omega), uA_n (by omega), uA_n (by omega), uA_n (by omega), uA_n (by omega), uA_n (by omega), uA_n (by omega), uA_n (by omega), uA_n (by omega), uA_n (by omega), uA_n (by omega), uA_s]
    · rw [uA_n (by omega), uA_n (by omega), uA_n (by omega), uA_n (by omega), uA_n (by omega), uA_n (by omega), uA_n (by omega), uA_n (by omega), uA_n (by omega), uA_n (by omega), uA_n (by omega), uA_s]
    · rw [uA_n (by omega), uA_n (by omega), uA_n (by omega), uA_n (by omega), uA_n (by omega), uA_n (by omega), uA_n (by omega), uA_n (by omega), uA_n (by omega), uA_n (by omega), uA_s]
    · rw [uA_n (by omega), uA_n (by omega), uA_n (by omega), uA_n (by omega), uA_n (by omega), uA_n (by omega), uA_n (by omega), uA_n (by omega), uA_n (by omega), uA_s]
    · rw [uA_n (by omega), uA_n (by omega), uA_n (by omega), uA_n (by omega), uA_n (by omega), uA_n (by omega), uA_n (by omega), uA_n (by omega), uA_s]
    · rw [uA_n (by omega), uA_n (by omega), uA_n (by omega), uA_n (by omega), uA_n (by omega), uA_n (by omega), uA_n (by omega), uA_s]
    · rw [uA_n (by omega), uA_n (by omega), uA_n (by omega), uA_n (by omega), uA_n (by omega), uA_n (by omega), uA_s]
    · rw [uA_n (by omega), uA_n (by omega), uA_n (by omega), uA_n (by omega), uA_n (by omega), uA_s]
    · rw [uA_n (by omega), uA_n (by omega), uA_n (by omega), uA_n (by omega), uA_s]
    · rw [uA_n (by omega), uA_n (by omega), uA_n (by omega), uA_s]
    · rw [uA_n (by omega), uA_n (by omega), uA_s]
    · rw [uA_n (by omega), uA_s]
    · rw [uA_s]
  · rw [e127, u1_n h2, u1_n h1, hM]
  · rw [e127, u1_n (by decide), u1_s]
  · rw [e127, u1_s]
end PINM
