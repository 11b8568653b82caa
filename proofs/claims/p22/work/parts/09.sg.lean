section PSG
variable {p : Program} {l : Launch} {e : Env} {Rm : Room} {s : State} {m : MethodId} {args : Array Value} {below : List Frame} {meth : Method} {c : Code} {Q : State → Prop} {D : va_G} {fv : Value} {A : Nat → Prop} {n : Nat} {σ σ0 : Nat → Nat} {T T0 : pT} {M M' : pM} {F F' : pF} {H H' : Heap} {locs : List Loc} {L : List Slot} {ls : Array Slot} {cells slots : Nat} {st st' : List Value} {pc : Nat} {o : pG ⊕ pR} {a b : Nat} {y : pC} {cc : ByteArray} {call : pK} {d : Nat}
theorem s_i8 {n : Int} (h0 : -128 ≤ n) (h1 : n ≤ 127) : (Int8.ofInt n).toInt32 = iI n := by
  apply Int32.toInt_inj.mp
  unfold iI
  rw [Int8.toInt_toInt32, Int8.toInt_ofInt, Int32.toInt_ofInt, Int.bmod_def, Int.bmod_def]
  simp only [Int8.size, Int32.size]
  omega
theorem s_i16 {n : Int} (h0 : -32768 ≤ n) (h1 : n ≤ 32767) : (Int16.ofInt n).toInt32 = iI n := by
  apply Int32.toInt_inj.mp
  unfold iI
  rw [Int16.toInt_toInt32, Int16.toInt_ofInt, Int32.toInt_ofInt, Int.bmod_def, Int.bmod_def]
  simp only [Int16.size, Int32.size]
  omega
theorem s_iinc {i : Nat} {n0 : Int} {x : Int32} (hx : p.tables.exec = Jvm.exec) (hb : c.code = cc) (hI : s_I D fv A s n σ T M F H locs L ls st) (hdg : decode cc pc = .ok (.iinc i n0, 3)) (hL : L[i]? = some (.val (.int x))) (h : p_nx (pc + 3) (L.set i (.val (.int (x + iI n0)))) st T M F = some o) (k : ∀ g, o = .inl g → s_K p l e Rm s m args below meth c Q D fv A n σ T cells slots g) :
    W p l e Rm s m args below meth c H locs cells slots Q (F0 m pc ls (st.map (s_vm σ fv))) := by
  have hi : i < L.length := (List.getElem?_eq_some_iff.mp hL).1
  have hg := hI.2.2.2.2.2.2.1.get hL (fun q => by cases q)
  refine s_L.set1 hI.cat (v := .int (x + iI n0)) rfl hI.2.2.2.2.2.2.1 hi (fun {lv lv'} h1 h2 h3 h4 => ?_)
  have h1' : lv_has ls n ((i, .int x) :: lv) := ⟨h1.1, h1.2.1, fun q hq => by
    rcases List.mem_cons.mp hq with rfl | hq
    · exact hg
    · exact h1.2.2 q hq⟩
  refine lv_iinc hx hb hdg (k := 0) (lv' := lv') h1' rfl rfl h2 ?_ (fun ls' hl => s_nx h k (hI.loc (h4 ls' hl) (fun j w hj => ?_)))
  · rw [← h3, List.filter_cons_of_neg (by simp)]
    rfl
  · by_cases ej : i = j
    · subst ej
      rw [List.getElem?_set_self hi] at hj
      cases hj
      exact .int
    · rw [List.getElem?_set_ne ej] at hj
      exact hI.2.2.2.2.2.2.2.2 j w hj
theorem s_inv {kind idx : Nat} (hX : s_X p l s m meth c D y) (hh : s_hchk y = true) (hn : n = y.2.2.2.1) (hcall : s_call_ok l fv Rm call) (hRf : 1 ≤ Rm.frames) (hRl : 40 ≤ Rm.locals) (hI : s_I D fv A s n σ T M F H locs L ls st) (hd0 : kind = 0 → decode y.2.2.1 pc = .ok (.invokestatic idx, 3)) (hd1 : kind = 1 → decode y.2.2.1 pc = .ok (.invokevirtual idx, 3)) (hd2 : kind = 2 → decode y.2.2.1 pc = .ok (.invokespecial idx, 3)) (h : p_inv d y call pc kind idx L st T M F = some o)
    (k : ∀ g, o = .inl g → s_K p l e Rm s m args below meth c Q D fv A n σ T cells slots g) (hroom : ∀ g, o = .inl g → cells + (g.2.2.2.1.1.1 - T.1.1) ≤ Rm.cells ∧ slots + (g.2.2.2.1.1.2 - T.1.2) ≤ Rm.slots) :
    W p l e Rm s m args below meth c H locs cells slots Q (F0 m pc ls (st.map (s_vm σ fv))) := by
  unfold p_inv at h
  split at h
  · cases h
  · rename_i k0 y' n0 z hl
    obtain ⟨q, nest, q2, q3, q5, q4⟩ := z
    split at h
    · exact s_cS hX hh hn hcall hI (hd0 rfl) hl h k hroom
    · split at h
      · rename_i a st' hst
        exact s_cV hX hh hn hcall hI (hd1 rfl) hl hst h k hroom
      · cases h
    · split at h
      · rename_i a st' hst
        exact s_cU hX hh hn hcall hI (hd1 rfl) hl hst h k hroom
      · cases h
    · split at h
      · rename_i a st' hst
        exact s_cP hX hh hn hcall hI (hd1 rfl) hl hst h k hroom
      · cases h
    · split at h
      · rename_i a st' hst
        exact s_cI hX hh hn hcall hI (hd2 rfl) hl hst h k hroom
      · cases h
    · split at h
      · rename_i a st' hst
        exact s_cW hX hh hn hcall hI (hd2 rfl) hl hst h k hroom
      · cases h
    · split at h
      · exact s_cO hX hn hRf hRl hI (hd2 rfl) hl h k
      · cases h
    · split at h
      · exact s_cC hX hn hRf hRl hI (hd1 rfl) hl h k hroom
      · cases h
    · split at h
      · exact s_cAB hX hn hRf hRl hI (hd0 rfl) hl h k
      · cases h
    · split at h
      · exact s_cA hX hn hRf hRl hI (hd0 rfl) hl h k
      · cases h
    · cases h
end PSG
