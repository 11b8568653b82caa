section PS2
/-! the maps of 05 say what the tables say: checked by the kernel -/
def s_in (q : Nat) (w : Cond) : Bool := decide (lw_tbl[q]? = some w) && s_mv w
theorem s_in_tbl {q : Nat} {w : Cond} (h : s_in q w = true) : w ∈ s_tbl := by
  unfold s_in at h
  rw [Bool.and_eq_true] at h
  exact List.mem_filter.mpr ⟨List.mem_of_getElem? (of_decide_eq_true h.1), h.2⟩
theorem lookup_mem {β : Type} : ∀ (l : List (Nat × β)) {k : Nat} {v : β}, l.lookup k = some v → (k, v) ∈ l
  | [], k, v, h => by cases h
  | (a, b) :: l, k, v, h => by
    rw [List.lookup_cons] at h
    by_cases e : (k == a) = true
    · rw [e] at h
      have e' : k = a := eq_of_beq e
      subst e'
      cases h
      exact List.mem_cons_self
    · rw [Bool.not_eq_true] at e
      rw [e] at h
      exact List.mem_cons_of_mem _ (lookup_mem l h)
theorem s_all {β : Type} {f : Nat → List (Nat × β)} {chk : Nat → Nat × β → Bool} (h : ∀ k, (f k).all (chk k) = true) {k idx : Nat} {v : β} (hl : (f k).lookup idx = some v) : chk k (idx, v) = true := List.all_eq_true.mp (h k) _ (lookup_mem _ hl)
theorem s_cut {β : Type} {l : List β} {f : β → Bool} (n : Nat) (h1 : (l.take n).all f = true) (h2 : (l.drop n).all f = true) : l.all f = true := by
  rw [← List.take_append_drop n l, List.all_append, h1, h2]; rfl
/-- long constants -/
def s_kchk (k : Nat) (e : Nat × Int × Nat) : Bool := s_in e.2.2 (.constantLong (p_cn k) e.1 (iL e.2.1))
set_option maxRecDepth 20000 in
theorem s_kOK_1 : (p_k_1).all (s_kchk 1) = true := by decide +kernel
set_option maxRecDepth 20000 in
theorem s_kOK_7 : (p_k_7).all (s_kchk 7) = true := by decide +kernel
theorem s_kOK : ∀ k, (p_k k).all (s_kchk k) = true := fun k => match k with
  | 0 => rfl
  | 1 => s_kOK_1
  | 2 => rfl
  | 3 => rfl
  | 4 => rfl
  | 5 => rfl
  | 6 => rfl
  | 7 => s_kOK_7
  | _ + 8 => rfl
/-- what ldc loads -/
def s_qchk (k : Nat) (e : Nat × Nat × Int × Nat) : Bool := match e with
  | (idx, 0, v, q) => s_in q (.constant (p_cn k) idx (iI v))
  | (idx, 1, v, _) => decide (k = 10) && p_lq.any (fun z => decide (z.1 = idx) && decide (z.2.2 = v.toNat)) && decide (v.toNat < 64) && decide ((p_roT v.toNat).1 ≠ 0) && decide (v.toNat ≠ 28) && decide (v.toNat ≠ 29)
  | _ => true
set_option maxRecDepth 20000 in
theorem s_qOK_10 : (p_q_10).all (s_qchk 10) = true := by decide +kernel
set_option maxRecDepth 20000 in
theorem s_qOK_14 : (p_q_14).all (s_qchk 14) = true := by decide +kernel
set_option maxRecDepth 20000 in
theorem s_qOK_18 : (p_q_18).all (s_qchk 18) = true := by decide +kernel
set_option maxRecDepth 20000 in
theorem s_qOK_20 : (p_q_20).all (s_qchk 20) = true := by decide +kernel
theorem s_qOK : ∀ k, (p_q k).all (s_qchk k) = true := fun k => match k with
  | 0 => rfl
  | 1 => rfl
  | 2 => rfl
  | 3 => rfl
  | 4 => rfl
  | 5 => rfl
  | 6 => rfl
  | 7 => rfl
  | 8 => rfl
  | 9 => rfl
  | 10 => s_qOK_10
  | 11 => rfl
  | 12 => rfl
  | 13 => rfl
  | 14 => s_qOK_14
  | 15 => rfl
  | 16 => rfl
  | 17 => rfl
  | 18 => s_qOK_18
  | 19 => rfl
  | 20 => s_qOK_20
  | _ + 21 => rfl
/-- which field it is: the class that declares it, name, descriptor -/
def s_fi (K j : Nat) : String × String × String := if K = 12 then (if j = 0 then (s_KC, "text", "Ljava/lang/String;") else (s_KC, "number", "I"))
  else match vcl (K - 10) with
    | some q => ((q.2.1 j).1, (q.2.1 j).2.1, (q.2.1 j).2.2.1)
    | none => ("", "", "")
def s_lk (own : String) (idx : Nat) (t : String × String × String) (nest : Nat) : Cond := if nest = 0 then .fieldLink own idx t.1 t.2.1 t.2.2 else .fieldLinkNest own idx t.1 t.2.1 t.2.2 "HexCabinet"
def s_fchk (k : Nat) (e : Nat × Nat × Nat × Nat × Nat × Nat × Bool) : Bool :=
  match e with
  | (idx, K, j, kd, q, nest, fin) => s_in q (s_lk (p_cn k) idx (s_fi K j) nest) &&
    (if K = 12 then decide (j < 2) && (decide (kd = 2) == decide (j = 0))
     else decide (10 ≤ K) && (match vcl (K - 10) with
      | some r => decide (j < r.2.2 ∧ (K = 21 → j < 2)) && (decide ((r.2.1 j).1 = r.1) || !fin) && ((r.2.1 j).2.2.2 == fin) && (decide (kd = 2) == s_isR (s_ty (K - 10) j)) && (decide (kd = 0) == decide (s_ty (K - 10) j = .int)) && (decide (kd = 1) == decide (s_ty (K - 10) j = .boolean)) && (decide (kd = 3) == decide (s_ty (K - 10) j = .byte))
      | none => false))
set_option maxRecDepth 20000 in
theorem s_fOK_0 : (p_f_0).all (s_fchk 0) = true := by decide +kernel
set_option maxRecDepth 20000 in
theorem s_fOK_1 : (p_f_1).all (s_fchk 1) = true := by decide +kernel
set_option maxRecDepth 20000 in
theorem s_fOK_2 : (p_f_2).all (s_fchk 2) = true := by decide +kernel
set_option maxRecDepth 20000 in
theorem s_fOK_3 : (p_f_3).all (s_fchk 3) = true := by decide +kernel
set_option maxRecDepth 20000 in
theorem s_fOK_4 : (p_f_4).all (s_fchk 4) = true := by decide +kernel
set_option maxRecDepth 20000 in
theorem s_fOK_5 : (p_f_5).all (s_fchk 5) = true := by decide +kernel
set_option maxRecDepth 20000 in
theorem s_fOK_6 : (p_f_6).all (s_fchk 6) = true := by decide +kernel
set_option maxRecDepth 20000 in
theorem s_fOK_7 : (p_f_7).all (s_fchk 7) = true := by decide +kernel
set_option maxRecDepth 20000 in
theorem s_fOK_8 : (p_f_8).all (s_fchk 8) = true := by decide +kernel
set_option maxRecDepth 20000 in
theorem s_fOK_10 : (p_f_10).all (s_fchk 10) = true := by decide +kernel
set_option maxRecDepth 20000 in
theorem s_fOK_11 : (p_f_11).all (s_fchk 11) = true := by decide +kernel
set_option maxRecDepth 20000 in
theorem s_fOK_18 : (p_f_18).all (s_fchk 18) = true := by decide +kernel
theorem s_fOK : ∀ k, (p_f k).all (s_fchk k) = true := fun k => match k with
  | 0 => s_fOK_0
  | 1 => s_fOK_1
  | 2 => s_fOK_2
  | 3 => s_fOK_3
  | 4 => s_fOK_4
  | 5 => s_fOK_5
  | 6 => s_fOK_6
  | 7 => s_fOK_7
  | 8 => s_fOK_8
  | 9 => rfl
  | 10 => s_fOK_10
  | 11 => s_fOK_11
  | 12 => rfl
  | 13 => rfl
  | 14 => rfl
  | 15 => rfl
  | 16 => rfl
  | 17 => rfl
  | 18 => s_fOK_18
  | _ + 19 => rfl
/-- static fields -/
def s_schk (k : Nat) (e : Nat × Nat × Nat × Nat × Nat × Nat) : Bool :=
  match e with
  | (idx, kd, v, row, q, nest) => decide ((row, kd, v) ∈ p_sl) && (match p_sN[row]? with
    | some t => s_in q (s_lk (p_cn k) idx t nest)
    | none => false)
set_option maxRecDepth 20000 in
theorem s_sOK_0 : (p_s_0).all (s_schk 0) = true := by decide +kernel
set_option maxRecDepth 20000 in
theorem s_sOK_1 : (p_s_1).all (s_schk 1) = true := by decide +kernel
set_option maxRecDepth 20000 in
theorem s_sOK_2 : (p_s_2).all (s_schk 2) = true := by decide +kernel
set_option maxRecDepth 20000 in
theorem s_sOK_3 : (p_s_3).all (s_schk 3) = true := by decide +kernel
set_option maxRecDepth 20000 in
theorem s_sOK_5 : (p_s_5).all (s_schk 5) = true := by decide +kernel
set_option maxRecDepth 20000 in
theorem s_sOK_7 : (p_s_7).all (s_schk 7) = true := by decide +kernel
set_option maxRecDepth 20000 in
theorem s_sOK_11 : (p_s_11).all (s_schk 11) = true := by decide +kernel
set_option maxRecDepth 20000 in
theorem s_sOK_14 : (p_s_14).all (s_schk 14) = true := by decide +kernel
set_option maxRecDepth 20000 in
theorem s_sOK_18 : (p_s_18).all (s_schk 18) = true := by decide +kernel
set_option maxRecDepth 20000 in
theorem s_sOK_19 : (p_s_19).all (s_schk 19) = true := by decide +kernel
theorem s_sOK : ∀ k, (p_s k).all (s_schk k) = true := fun k => match k with
  | 0 => s_sOK_0
  | 1 => s_sOK_1
  | 2 => s_sOK_2
  | 3 => s_sOK_3
  | 4 => rfl
  | 5 => s_sOK_5
  | 6 => rfl
  | 7 => s_sOK_7
  | 8 => rfl
  | 9 => rfl
  | 10 => rfl
  | 11 => s_sOK_11
  | 12 => rfl
  | 13 => rfl
  | 14 => s_sOK_14
  | 15 => rfl
  | 16 => rfl
  | 17 => rfl
  | 18 => s_sOK_18
  | 19 => s_sOK_19
  | _ + 20 => rfl
/-- methods -/
def s_ml (own : String) (idx : Nat) (y : MethodName) (nest : Nat) : Cond := if nest = 0 then .methodLink own idx y else .methodLinkNest own idx y "HexCabinet"
def s_cw (y : pC) : Cond := if y.2.2.2.2.2 = [] then .code y.2.1 y.2.2.1 y.2.2.2.1 y.2.2.2.2.1 else .codeWith y.2.1 y.2.2.1 y.2.2.2.1 y.2.2.2.2.1 y.2.2.2.2.2
def s_hchk (y : pC) : Bool := y.2.2.2.2.2.isEmpty
abbrev s_AC : String := "java/lang/AbstractStringBuilder"
abbrev s_BC : String := "java/lang/StringBuilder"
/-- somewhere among the words -/
def s_inA (w : Cond) : Bool := lw_tbl.any (fun z => decide (z = w)) && s_mv w
theorem s_inA_tbl {w : Cond} (h : s_inA w = true) : w ∈ s_tbl := by
  unfold s_inA at h
  rw [Bool.and_eq_true] at h
  obtain ⟨z, hz, e⟩ := List.any_eq_true.mp h.1
  have e : z = w := of_decide_eq_true e
  subst e
  exact List.mem_filter.mpr ⟨hz, h.2⟩
/-- a method of the class above: what its words are -/
def s_acw (x : MethodName) : Bool := s_inA (.sameMethod x.cls x.cls x.name x.desc) && s_inA (.instanceMethod x) && lw_tbl.any (fun w => match w with
  | .code y _ _ _ => decide (y = x) && s_mv w
  | _ => false)
def s_mchk (k : Nat) (e : Nat × Nat × pC × Nat × Nat × Nat × Nat × Nat × Nat × Nat) : Bool :=
  match e with
  | (idx, 3, _, _, q, nest, _) => s_in q (.methodLink (p_cn k) idx objectInit) && decide (nest = 0)
  | (idx, 4, _, _, q, nest, _) => s_in q (.methodLink (p_cn k) idx arraycopyName) && decide (nest = 0)
  | (idx, 8, _, _, q, nest, _) => s_in q (.methodLink (p_cn k) idx arraycopyName) && decide (nest = 0)
  | (idx, 5, _, _, q, nest, _) => s_in q (.methodLink (p_cn k) idx ⟨"[B", "clone", "()Ljava/lang/Object;"⟩) && decide (nest = 0)
  | (idx, kk, y, n, q, nest, q2, q3, q5, q4) => s_in q4 (s_cw y) && s_hchk y && decide (y.2.1.cls ≠ "java/lang/invoke/MethodHandle") && decide (y.2.1.cls ≠ "java/lang/invoke/VarHandle") && decide (y.2.1.cls = p_cn y.1) && s_in q3 (.initialized y.2.1.cls) &&
    decide ((parseMethodDescriptor y.2.1.desc).map (fun d => d.parameters.length) = some n) && decide (y.2.2.2.1 ≤ 20) &&
    (match kk with
      | 0 => s_in q (s_ml (p_cn k) idx y.2.1 nest) && (s_in q2 (.static y.2.1) && (decide (nest = 0) || decide (y.2.2.2.2.2 = [])))
      | 1 => s_in q (s_ml (p_cn k) idx y.2.1 nest) && (s_in q2 (.instanceMethod y.2.1) && s_in q5 (.selects y.2.1.cls y.2.1 y.2.1) && decide (y.2.2.2.2.2 = []) && decide (y.1 < 10 ∨ y.1 = 11))
      | 2 => s_in q (s_ml (p_cn k) idx y.2.1 nest) && (s_in q2 (.instanceMethod y.2.1) && decide (y.2.1.name = "<init>") && decide (y.2.2.2.2.2 = []) && decide (y.2.2.2.2.1 = none) && decide (y.1 < 10 ∨ y.1 = 11 ∨ y.1 = 18))
      | 6 => s_in q (.methodLink (p_cn k) idx ⟨s_AC, y.2.1.name, y.2.1.desc⟩) && (s_in q2 (.instanceMethod y.2.1) && s_in q5 (.selects s_BC ⟨s_AC, y.2.1.name, y.2.1.desc⟩ y.2.1) && decide (y.2.2.2.2.2 = []) && decide (nest = 0) && decide (y.1 = 9 ∨ y.1 = 18) && s_acw ⟨s_AC, y.2.1.name, y.2.1.desc⟩)
      | 7 => s_in q (.methodLink (p_cn k) idx y.2.1) && (s_in q2 (.instanceMethod y.2.1) && decide (k = 9) && decide (y.2.2.2.2.2 = []) && decide (nest = 0) && decide (y.1 = 18) && decide (y.2.1.name ≠ "<init>") && s_inA (.sameMethod y.2.1.cls y.2.1.cls y.2.1.name y.2.1.desc) && s_inA (.superclass (p_cn k) y.2.1.cls))
      | 9 => s_in q (.methodLink (p_cn k) idx y.2.1) && (s_in q2 (.instanceMethod y.2.1) && s_in q5 (.privateMethod y.2.1) && decide (y.2.2.2.2.2 = []) && decide (nest = 0) && decide (y.1 = 18) && s_inA (.sameMethod y.2.1.cls y.2.1.cls y.2.1.name y.2.1.desc))
      | _ => false)
set_option maxRecDepth 20000 in
theorem s_mOK_0 : (p_m_0).all (s_mchk 0) = true := by decide +kernel
set_option maxRecDepth 20000 in
theorem s_mOK_1_0 : (((p_m_1).take 25)).all (s_mchk 1) = true := by decide +kernel
set_option maxRecDepth 20000 in
theorem s_mOK_1_1 : (((p_m_1).drop 25)).all (s_mchk 1) = true := by decide +kernel
theorem s_mOK_1 : (p_m_1).all (s_mchk 1) = true := (s_cut 25 s_mOK_1_0 s_mOK_1_1)
set_option maxRecDepth 20000 in
theorem s_mOK_2 : (p_m_2).all (s_mchk 2) = true := by decide +kernel
set_option maxRecDepth 20000 in
theorem s_mOK_3 : (p_m_3).all (s_mchk 3) = true := by decide +kernel
set_option maxRecDepth 20000 in
theorem s_mOK_4 : (p_m_4).all (s_mchk 4) = true := by decide +kernel
set_option maxRecDepth 20000 in
theorem s_mOK_5 : (p_m_5).all (s_mchk 5) = true := by decide +kernel
set_option maxRecDepth 20000 in
theorem s_mOK_6 : (p_m_6).all (s_mchk 6) = true := by decide +kernel
set_option maxRecDepth 20000 in
theorem s_mOK_7_0 : (((p_m_7).take 25)).all (s_mchk 7) = true := by decide +kernel
set_option maxRecDepth 20000 in
theorem s_mOK_7_1 : (((p_m_7).drop 25)).all (s_mchk 7) = true := by decide +kernel
theorem s_mOK_7 : (p_m_7).all (s_mchk 7) = true := (s_cut 25 s_mOK_7_0 s_mOK_7_1)
set_option maxRecDepth 20000 in
theorem s_mOK_8_0 : (((p_m_8).take 25)).all (s_mchk 8) = true := by decide +kernel
set_option maxRecDepth 20000 in
theorem s_mOK_8_1 : (((p_m_8).drop 25)).all (s_mchk 8) = true := by decide +kernel
theorem s_mOK_8 : (p_m_8).all (s_mchk 8) = true := (s_cut 25 s_mOK_8_0 s_mOK_8_1)
set_option maxRecDepth 20000 in
theorem s_mOK_9 : (p_m_9).all (s_mchk 9) = true := by decide +kernel
set_option maxRecDepth 20000 in
theorem s_mOK_10_0 : (((p_m_10).take 25)).all (s_mchk 10) = true := by decide +kernel
set_option maxRecDepth 20000 in
theorem s_mOK_10_1 : (((p_m_10).drop 25)).all (s_mchk 10) = true := by decide +kernel
theorem s_mOK_10 : (p_m_10).all (s_mchk 10) = true := (s_cut 25 s_mOK_10_0 s_mOK_10_1)
set_option maxRecDepth 20000 in
theorem s_mOK_11 : (p_m_11).all (s_mchk 11) = true := by decide +kernel
set_option maxRecDepth 20000 in
theorem s_mOK_13 : (p_m_13).all (s_mchk 13) = true := by decide +kernel
set_option maxRecDepth 20000 in
theorem s_mOK_14 : (p_m_14).all (s_mchk 14) = true := by decide +kernel
set_option maxRecDepth 20000 in
theorem s_mOK_15 : (p_m_15).all (s_mchk 15) = true := by decide +kernel
set_option maxRecDepth 20000 in
theorem s_mOK_18 : (p_m_18).all (s_mchk 18) = true := by decide +kernel
set_option maxRecDepth 20000 in
theorem s_mOK_20 : (p_m_20).all (s_mchk 20) = true := by decide +kernel
theorem s_mOK : ∀ k, (p_m k).all (s_mchk k) = true := fun k => match k with
  | 0 => s_mOK_0
  | 1 => s_mOK_1
  | 2 => s_mOK_2
  | 3 => s_mOK_3
  | 4 => s_mOK_4
  | 5 => s_mOK_5
  | 6 => s_mOK_6
  | 7 => s_mOK_7
  | 8 => s_mOK_8
  | 9 => s_mOK_9
  | 10 => s_mOK_10
  | 11 => s_mOK_11
  | 12 => rfl
  | 13 => s_mOK_13
  | 14 => s_mOK_14
  | 15 => s_mOK_15
  | 16 => rfl
  | 17 => rfl
  | 18 => s_mOK_18
  | 19 => rfl
  | 20 => s_mOK_20
  | _ + 21 => rfl
/-- the code word of a method that is called -/
def s_cok (y : pC) : Bool := (lw_tbl.any (fun w => decide (w = s_cw y))) && s_mv (s_cw y)
/-- classes -/
def s_cchk (k : Nat) (e : Nat × Nat × Nat × Nat × Nat × Nat × Nat) : Bool :=
  match e with
  | (idx, 0, c, n, q, q2, q3) => s_in q (.classLink (p_cn k) idx (p_cn c)) && s_in q2 (.instantiable (p_cn c) n) && s_in q3 (.initialized (p_cn c)) && (decide (c = 2) || decide ((vcl c).map (fun r => (r.1, r.2.2)) = some (p_cn c, n)))
  | (idx, 1, E, _, q, _) => s_in q (.classLink (p_cn k) idx (p_en E)) && decide (E < 3)
  | (idx, 3, _, _, q, _) => s_in q (.classLink (p_cn k) idx "[B")
  | _ => true
set_option maxRecDepth 20000 in
theorem s_cOK_1 : (p_c_1).all (s_cchk 1) = true := by decide +kernel
set_option maxRecDepth 20000 in
theorem s_cOK_3 : (p_c_3).all (s_cchk 3) = true := by decide +kernel
set_option maxRecDepth 20000 in
theorem s_cOK_6 : (p_c_6).all (s_cchk 6) = true := by decide +kernel
set_option maxRecDepth 20000 in
theorem s_cOK_7 : (p_c_7).all (s_cchk 7) = true := by decide +kernel
set_option maxRecDepth 20000 in
theorem s_cOK_8 : (p_c_8).all (s_cchk 8) = true := by decide +kernel
set_option maxRecDepth 20000 in
theorem s_cOK_9 : (p_c_9).all (s_cchk 9) = true := by decide +kernel
set_option maxRecDepth 20000 in
theorem s_cOK_10 : (p_c_10).all (s_cchk 10) = true := by decide +kernel
set_option maxRecDepth 20000 in
theorem s_cOK_15 : (p_c_15).all (s_cchk 15) = true := by decide +kernel
theorem s_cOK : ∀ k, (p_c k).all (s_cchk k) = true := fun k => match k with
  | 0 => rfl
  | 1 => s_cOK_1
  | 2 => rfl
  | 3 => s_cOK_3
  | 4 => rfl
  | 5 => rfl
  | 6 => s_cOK_6
  | 7 => s_cOK_7
  | 8 => s_cOK_8
  | 9 => s_cOK_9
  | 10 => s_cOK_10
  | 11 => rfl
  | 12 => rfl
  | 13 => rfl
  | 14 => rfl
  | 15 => s_cOK_15
  | _ + 16 => rfl
end PS2
