section PS2
/-! the maps of 05 say what the tables say: checked by the kernel -/
def s_in (q : Nat) (w : Cond) : Bool := decide (lw_tbl[q]? = some w) && s_mv w
theorem s_in_tbl {q : Nat} {w : Cond} (h : s_in q w = true) : w ∈ s_tbl := by
  unfold s_in at h
  rw [Bool.and_eq_true] at h
  exact List.mem_filter.mpr ⟨List.mem_of_getElem? (of_decide_eq_true h.1), h.2⟩
theorem lookup_mem {β : Type} : ∀ (l : List (Nat × β)) {k : Nat} {v : β}, l.lookup k = some v → (k, v) ∈ l
  | [], k, v, h => by cases h
  | (a, b) :: l, k, v, h => by
    rw [List.lookup_cons] at h
    by_cases e : (k == a) = true
    · rw [e] at h
      have e' : k = a := eq_of_beq e
      subst e'
      cases h
      exact List.mem_cons_self
    · rw [Bool.not_eq_true] at e
      rw [e] at h
      exact List.mem_cons_of_mem _ (lookup_mem l h)
theorem s_all {β : Type} {f : Nat → List (Nat × β)} {chk : Nat → Nat × β → Bool} (h : (List.range 17).all (fun k => (f k).all (chk k)) = true) (hn : ∀ k, 17 ≤ k → f k = []) {k idx : Nat} {v : β} (hl : (f k).lookup idx = some v) : chk k (idx, v) = true := by
  have hm := lookup_mem _ hl
  have hk : k < 17 := by
    rcases Nat.lt_or_ge k 17 with q | q
    · exact q
    · rw [hn k q] at hm; cases hm
  exact List.all_eq_true.mp (List.all_eq_true.mp h k (List.mem_range.mpr hk)) _ hm
/-- long constants -/
def s_kchk (k : Nat) (e : Nat × Int × Nat) : Bool := s_in e.2.2 (.constantLong (p_cn k) e.1 (iL e.2.1))
set_option maxRecDepth 20000 in
theorem s_kOK : (List.range 17).all (fun k => (p_k k).all (s_kchk k)) = true := by decide +kernel
/-- which field it is: the class that declares it, name, descriptor -/
def s_fi (K j : Nat) : String × String × String := if K = 12 then (if j = 0 then (s_KC, "text", "Ljava/lang/String;") else (s_KC, "number", "I")) else if K = 21 then (if j = 0 then (s_SC, "value", "[B") else (s_SC, "coder", "B"))
  else match vwCl[K - 10]? with
    | some q => ((q.2.1 j).1, (q.2.1 j).2.1, (q.2.1 j).2.2.1)
    | none => ("", "", "")
def s_lk (own : String) (idx : Nat) (t : String × String × String) (nest : Nat) : Cond := if nest = 0 then .fieldLink own idx t.1 t.2.1 t.2.2 else .fieldLinkNest own idx t.1 t.2.1 t.2.2 "HexCabinet"
def s_fchk (k : Nat) (e : Nat × Nat × Nat × Nat × Nat × Nat × Bool) : Bool :=
  match e with
  | (idx, K, j, kd, q, nest, fin) => s_in q (s_lk (p_cn k) idx (s_fi K j) nest) &&
    (if K = 12 ∨ K = 21 then decide (j < 2) && (decide (kd = 2) == decide (j = 0))
     else decide (10 ≤ K) && (match vwCl[K - 10]? with
      | some r => decide (j < r.2.2) && decide ((r.2.1 j).1 = r.1) && ((r.2.1 j).2.2.2 == fin) && (decide (kd = 2) == s_isR (s_ty (K - 10) j)) && (decide (kd = 0) == decide (s_ty (K - 10) j = .int)) && (decide (kd = 1) == decide (s_ty (K - 10) j = .boolean))
      | none => false))
set_option maxRecDepth 20000 in
theorem s_fOK : (List.range 17).all (fun k => (p_f k).all (s_fchk k)) = true := by decide +kernel
/-- static fields -/
def s_schk (k : Nat) (e : Nat × Nat × Nat × Nat × Nat × Nat) : Bool :=
  match e with
  | (idx, kd, v, row, q, nest) => decide ((row, kd, v) ∈ p_sl) && (match p_sN[row]? with
    | some t => s_in q (s_lk (p_cn k) idx t nest)
    | none => false)
set_option maxRecDepth 20000 in
theorem s_sOK : (List.range 17).all (fun k => (p_s k).all (s_schk k)) = true := by decide +kernel
/-- methods -/
def s_ml (own : String) (idx : Nat) (y : MethodName) (nest : Nat) : Cond := if nest = 0 then .methodLink own idx y else .methodLinkNest own idx y "HexCabinet"
def s_cw (y : pC) : Cond := if y.2.2.2.2.2 = [] then .code y.2.1 y.2.2.1 y.2.2.2.1 y.2.2.2.2.1 else .codeWith y.2.1 y.2.2.1 y.2.2.2.1 y.2.2.2.2.1 y.2.2.2.2.2
def s_mchk (k : Nat) (e : Nat × Nat × pC × Nat × Nat × Nat × Nat × Nat × Nat) : Bool :=
  match e with
  | (idx, 3, _, _, q, nest, _) => s_in q (.methodLink (p_cn k) idx objectInit) && decide (nest = 0)
  | (idx, 4, _, _, q, nest, _) => s_in q (.methodLink (p_cn k) idx arraycopyName) && decide (nest = 0)
  | (idx, kk, y, n, q, nest, q2, q3, q5) => s_in q (s_ml (p_cn k) idx y.2.1 nest) && decide (y.2.1.cls = p_cn y.1) && s_in q3 (.initialized y.2.1.cls) && s_mv (s_cw y) &&
    decide ((parseMethodDescriptor y.2.1.desc).map (fun d => d.parameters.length) = some n) && decide (y.2.2.2.1 ≤ 20) &&
    (match kk with
      | 0 => s_in q2 (.static y.2.1) && (decide (nest = 0) || decide (y.2.2.2.2.2 = []))
      | 1 => s_in q2 (.instanceMethod y.2.1) && s_in q5 (.selects y.2.1.cls y.2.1 y.2.1) && decide (y.2.2.2.2.2 = []) && decide (y.1 < 9 ∨ y.1 = 11) 
      | 2 => s_in q2 (.instanceMethod y.2.1) && decide (y.2.1.name = "<init>") && decide (y.2.2.2.2.2 = []) && decide (y.2.2.2.2.1 = none) && decide (y.1 < 9)
      | _ => false)
set_option maxRecDepth 20000 in
theorem s_mOK : (List.range 17).all (fun k => (p_m k).all (s_mchk k)) = true := by decide +kernel
/-- the code word of a method that is called -/
def s_cok (y : pC) : Bool := (lw_tbl.any (fun w => decide (w = s_cw y))) && s_mv (s_cw y)
/-- classes -/
def s_cchk (k : Nat) (e : Nat × Nat × Nat × Nat × Nat × Nat × Nat) : Bool :=
  match e with
  | (idx, 0, c, n, q, q2, q3) => s_in q (.classLink (p_cn k) idx (p_cn c)) && s_in q2 (.instantiable (p_cn c) n) && s_in q3 (.initialized (p_cn c)) && (decide (c = 2) || decide ((vwCl[c]?).map (fun r => (r.1, r.2.2)) = some (p_cn c, n)))
  | (idx, 1, E, _, q, _) => s_in q (.classLink (p_cn k) idx (p_en E)) && decide (E < 3)
  | _ => true
set_option maxRecDepth 20000 in
theorem s_cOK : (List.range 17).all (fun k => (p_c k).all (s_cchk k)) = true := by decide +kernel
end PS2
