section PPLM
variable {bb : Int → Int} {k s t pas q its to as c x p i z : Int}
/-- behind a legal move the position can be played -/
theorem ply_mk (hb : MB bb) (ht : t = 0 ∨ t = 1) (hp : PS bb t pas) (hy : m_ply bb t) (hV : MV bb t pas its to) (has : 2 ≤ as ∧ as ≤ 5) (hs : ¬ m_chk (mk_bb bb pas its to as) t) : m_ply (mk_bb bb pas its to as) (1 - t) := by
  obtain ⟨y0, y1, y2⟩ := hy
  have hkt : m_king bb t ≠ -1 := by rcases ht with rfl | rfl <;> assumption
  have hke : m_king bb (1 - t) ≠ -1 := by rcases ht with rfl | rfl <;> assumption
  have m1 := mk_king hb ht hp hV hkt has
  have m2 : m_king (mk_bb bb pas its to as) (1 - t) ≠ -1 := by
    intro e
    obtain ⟨g1, g2, g3⟩ := (m_king_rg bb (1 - t)).resolve_left hke
    have hno := m_kg_no 91 0 e (by omega) (m_king bb (1 - t)) g1 (by omega)
    have e1 : m_king bb (1 - t) ≠ to := by
      intro z
      have h0 : bb to ≠ 0 := by rw [← z, g3]; omega
      have ha := mv_att ht hb hp hV h0
      have hr := (m_att_rg bb to t).1
      refine y2 ?_
      unfold m_chk
      rw [z, show 1 - (1 - t) = t by omega]
      omega
    have hst := m_side_t hb ht hV.2.2.1
    have e2 : m_king bb (1 - t) ≠ its := by
      intro z; rw [z] at g3; omega
    obtain ⟨-, -, z3⟩ := mk_pl_rg hb ht hp hV
    have e3 : m_king bb (1 - t) ≠ mk_pl bb pas its to := by
      intro z
      have := (z3 (by rw [← z]; exact e1)).2
      rw [← z] at this
      omega
    refine hno ?_
    unfold mk_bb u1
    rw [if_neg e1, if_neg e2, if_neg e3]
    exact g3
  refine ⟨?_, ?_, ?_⟩
  · rcases ht with rfl | rfl
    · exact m1
    · exact m2
  · rcases ht with rfl | rfl
    · exact m2
    · exact m1
  · rw [show 1 - (1 - t) = t by omega]; exact hs
/-- what a legal move is, of a code -/
theorem lg_move (h : x ∈ lgA bb t pas) : m_ply bb t ∧ MV bb t pas (x / 91) (x % 91) ∧ ¬ m_chk (mk_bb bb pas (x / 91) (x % 91) 2) t := by
  obtain ⟨h1, its, c, h2, h3, h4⟩ := lgA_mem.mp h
  have a1 := h3.2.1
  have e1 : x / 91 = its := by omega
  have e2 : x % 91 = c := by omega
  rw [e1, e2]
  exact ⟨h1, h3, h4⟩
end PPLM
