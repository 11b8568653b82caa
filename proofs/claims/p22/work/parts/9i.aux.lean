section PNW
variable {T : pT}
theorem p_ty_nw {tag n : Nat} (h : 100 ≤ T.1.1) : p_ty (p_new T tag n) T.1.1 = (tag, n) := by
  unfold p_ty p_new
  rw [if_neg (by omega)]
  exact if_pos rfl
theorem p_ty_nx {tag n a : Nat} (h : a < T.1.1) : p_ty (p_new T tag n) a = p_ty T a := (s_mono.new (T := T) (tag := tag) (N := n)).2.2 a h
end PNW
