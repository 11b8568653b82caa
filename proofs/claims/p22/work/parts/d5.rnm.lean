section PRNM
/-! what the rounds check, as mathematics -/
variable {bb b1 b2 : Int → Int} {k s t pas q its to as c p x i j e w : Int} {S : GSx}
theorem rayC_cg (h0 : ∀ c, b1 c = 0 ↔ b2 c = 0) : ∀ (n : Nat) (c : Int), rayC b1 i n c = rayC b2 i n c
  | 0, c => rfl
  | n + 1, c => by
    rw [rayC, rayC]
    by_cases e : c = -1 ∨ b1 c ≠ 0
    · rw [if_pos e, if_pos (e.imp id (fun z y => z ((h0 c).mpr y)))]
    · rw [if_neg e, if_neg (fun z => e (z.imp id (fun z y => z ((h0 c).mp y)))), rayC_cg h0 n]
theorem att_cg (h0 : ∀ c, b1 c = 0 ↔ b2 c = 0) (he : e = 0 ∨ e = 1) (hv : ∀ c v, 10 * e + 1 ≤ v → v ≤ 10 * e + 6 → (b1 c = v ↔ b2 c = v)) : m_att b1 k e = m_att b2 k e := by
  have on : ∀ c v, 10 * e + 1 ≤ v → v ≤ 10 * e + 6 → (m_on b1 c = v ↔ m_on b2 c = v) := by
    intro c v h1 h2
    unfold m_on
    by_cases z : c = -1
    · rw [if_pos z, if_pos z]
    · rw [if_neg z, if_neg z]; exact hv c v h1 h2
  unfold m_att
  have e1 : ∀ i, m_sl b1 k e i = m_sl b2 k e i := by
    intro i
    unfold m_sl
    rw [rayC_cg h0]
    refine bI_iff ?_
    rw [on _ _ (by omega) (by omega), on _ (10 * e + (if i < 6 then 3 else 4)) (by split <;> omega) (by split <;> omega)]
  have e2 : ∀ i, m_kk b1 k e i = m_kk b2 k e i := by
    intro i
    unfold m_kk
    rw [bI_iff (on (gn k i) (10 * e + 1) (by omega) (by omega)), bI_iff (on (gj k i) (10 * e + 5) (by omega) (by omega))]
  have e3 : ∀ i, m_pn b1 k e i = m_pn b2 k e i := by
    intro i
    unfold m_pn
    exact bI_iff (on _ _ (by omega) (by omega))
  rw [sm_eq 12 (fun i _ _ => e1 i), sm_eq 12 (fun i _ _ => e2 i), sm_eq 2 (fun i _ _ => e3 i)]
theorem m_king_cg (h : ∀ k, b1 k = 10 * t + 1 ↔ b2 k = 10 * t + 1) : m_king b1 t = m_king b2 t := by
  have : ∀ (n : Nat) (k : Int), m_kg b1 t n k = m_kg b2 t n k := by
    intro n
    induction n with
    | zero => intro k; rfl
    | succ n ih =>
      intro k
      rw [m_kg, m_kg, ih]
      by_cases c : b1 k = 10 * t + 1
      · rw [if_pos c, if_pos ((h k).mp c)]
      · rw [if_neg c, if_neg (fun z => c ((h k).mpr z))]
  exact this 91 0
/-- what a pawn becomes doesn't matter to the own king -/
theorem chk_as (hb : MB bb) (ht : t = 0 ∨ t = 1) (hV : MV bb t pas its to) (has : 2 ≤ as ∧ as ≤ 5) : m_chk (mk_bb bb pas its to as) t ↔ m_chk (mk_bb bb pas its to 2) t := by
  have h1 := mk_th_v hb ht hV has
  have h2 := mk_th_v hb ht hV (as := 2) (by omega)
  have hk : mk_th bb its to as = 10 * t + 1 ↔ mk_th bb its to 2 = 10 * t + 1 := by
    unfold mk_th
    rw [hV.2.2.1]
    split <;> omega
  have hd : ∀ c, c ≠ to → mk_bb bb pas its to as c = mk_bb bb pas its to 2 c := fun c hc => by rw [mk_bb_at, mk_bb_at, if_neg hc, if_neg hc]
  have ht1 : mk_bb bb pas its to as to = mk_th bb its to as := by rw [mk_bb_at, if_pos rfl]
  have ht2 : mk_bb bb pas its to 2 to = mk_th bb its to 2 := by rw [mk_bb_at, if_pos rfl]
  have e0 : m_king (mk_bb bb pas its to as) t = m_king (mk_bb bb pas its to 2) t := by
    refine m_king_cg (fun k => ?_)
    by_cases c : k = to
    · rw [c, ht1, ht2]; exact hk
    · rw [hd k c]
  unfold m_chk
  rw [e0, att_cg (b1 := mk_bb bb pas its to as) (b2 := mk_bb bb pas its to 2) (fun c => ?_) (by omega) (fun c v v1 v2 => ?_)]
  · by_cases z : c = to
    · rw [z, ht1, ht2]; omega
    · rw [hd c z]
  · by_cases z : c = to
    · rw [z, ht1, ht2]; omega
    · rw [hd c z]
/-- the worth that is gone -/
theorem wo_u1 (hc : 0 ≤ c ∧ c < 91) : sm (a_wo (u1 bb c x) s) 91 = sm (a_wo bb s) 91 + ((if m_side x = s then m_wor (x % 10) else 0) - a_wo bb s c) := by
  have h := sm_u1 (f := a_wo bb s) (h := a_wo (u1 bb c x) s) (c := c) (y := (if m_side x = s then m_wor (x % 10) else 0) - a_wo bb s c) hc.1 (fun j hj => by
    unfold a_wo; rw [u1_n hj]) (by
    show (if m_side (u1 bb c x c) = s then m_wor (u1 bb c x c % 10) else 0) = _
    rw [u1_s]; omega) 91
  rw [h, if_pos (by omega)]
theorem wo_mk (hb : MB bb) (ht : t = 0 ∨ t = 1) (hp : PS bb t pas) (hV : MV bb t pas its to) (has : 2 ≤ as ∧ as ≤ 5) :
    sm (a_wo (mk_bb bb pas its to as) t) 91 = sm (a_wo bb t) 91 + (m_wor (mk_th bb its to as % 10) - m_wor (bb its % 10)) ∧ sm (a_wo (mk_bb bb pas its to as) (1 - t)) 91 = sm (a_wo bb (1 - t)) 91 - m_wor (bb (mk_pl bb pas its to) % 10) := by
  obtain ⟨p1, p2, p3⟩ := mk_pl_rg hb ht hp hV
  have hth := (mk_th_v hb ht hV has).2.1
  obtain ⟨h1, h2, h3, h4, h5⟩ := id hV
  have hst := m_side_t hb ht h3
  have hne : to ≠ its := by intro z; rw [z] at h5; exact h5 h3
  have z0 : ∀ s, (s = 0 ∨ s = 1) → (if m_side 0 = s then m_wor (0 % 10) else 0) = 0 := by
    intro s hs
    rw [if_neg (by unfold m_side; rw [if_pos rfl]; omega)]
  have v1 : u1 bb (mk_pl bb pas its to) 0 its = bb its := u1_n (fun z => p2 z.symm)
  have v2 : u1 (u1 bb (mk_pl bb pas its to) 0) its 0 to = 0 := by
    rw [u1_n hne]
    by_cases c : to = mk_pl bb pas its to
    · rw [← c, u1_s]
    · rw [u1_n c]; exact (p3 (fun z => c z.symm)).1
  have sP : m_side (bb (mk_pl bb pas its to)) ≠ t := by
    by_cases c : mk_pl bb pas its to = to
    · rw [c]; exact h5
    · rw [(p3 c).2]; unfold m_side; split <;> omega
  have tot : ∀ s, (s = 0 ∨ s = 1) → sm (a_wo (mk_bb bb pas its to as) s) 91 = sm (a_wo bb s) 91 - a_wo bb s (mk_pl bb pas its to) - a_wo bb s its + (if m_side (mk_th bb its to as) = s then m_wor (mk_th bb its to as % 10) else 0) := by
    intro s hs
    unfold mk_bb
    rw [wo_u1 h2, wo_u1 h1, wo_u1 p1, z0 s hs]
    have e1 : a_wo (u1 bb (mk_pl bb pas its to) 0) s its = a_wo bb s its := by unfold a_wo; rw [v1]
    have e2 : a_wo (u1 (u1 bb (mk_pl bb pas its to) 0) its 0) s to = 0 := by
      unfold a_wo; rw [v2]; exact z0 s hs
    rw [e1, e2]
    omega
  have sth : m_side (mk_th bb its to as) = t := by unfold m_side; split <;> omega
  constructor
  · rw [tot t ht, if_pos sth]
    unfold a_wo
    rw [if_neg sP, if_pos h3]
    omega
  · rw [tot (1 - t) (by omega), if_neg (by rw [sth]; omega)]
    unfold a_wo
    rw [if_neg (show ¬ m_side (bb its) = 1 - t by rw [h3]; omega)]
    have hm := hb (mk_pl bb pas its to)
    by_cases c : bb (mk_pl bb pas its to) = 0
    · rw [if_neg (by rw [c]; unfold m_side; rw [if_pos rfl]; omega), c, show m_wor (0 % 10) = 0 from rfl]
      omega
    · rw [if_pos (by revert sP; unfold m_side; rw [if_neg c]; omega)]
      omega
/-- sorted -/
theorem flt_pw (P : Int → Prop) : ∀ (n : Nat) (i : Int), (flt P n i).Pairwise (· < ·)
  | 0, i => List.Pairwise.nil
  | n + 1, i => by
    rw [flt]
    refine List.pairwise_append.mpr ⟨?_, flt_pw P n (i + 1), fun a ha b hb => ?_⟩
    · split
      · exact List.pairwise_singleton _ _
      · exact List.Pairwise.nil
    · have hb := ((flt_mem P n (i + 1)).mp hb).1
      have ha : a = i := by
        split at ha
        · exact List.mem_singleton.mp ha
        · exact absurd ha List.not_mem_nil
      omega
theorem lgL_pw : ∀ (n : Nat) (i : Int), (lgL bb t pas n i).Pairwise (· < ·)
  | 0, i => List.Pairwise.nil
  | n + 1, i => by
    rw [lgL]
    refine List.pairwise_append.mpr ⟨?_, lgL_pw n (i + 1), fun a ha b hb => ?_⟩
    · rw [List.pairwise_map]
      exact (flt_pw _ 91 0).imp (fun h => by omega)
    · obtain ⟨c, hc, rfl⟩ := List.mem_map.mp ha
      obtain ⟨its, c2, h1, h2, rfl, h3, -⟩ := lgL_mem n (i + 1) |>.mp hb
      have hc := (flt_mem _ 91 0).mp hc
      have := h3.2.1
      omega
theorem lgQ_pw : (lgQ bb t pas q).Pairwise (· < ·) := by
  unfold lgQ lgA
  split
  · exact List.Pairwise.nil
  · split
    · exact lgL_pw 91 0
    · exact List.Pairwise.nil
theorem lgQ_lt {i j : Nat} (h : i < j) (hj : j < (lgQ bb t pas q).length) : (lgQ bb t pas q).getD i 0 < (lgQ bb t pas q).getD j 0 := by
  have := List.pairwise_iff_getElem.mp (lgQ_pw (bb := bb) (t := t) (pas := pas) (q := q)) i j (by omega) hj h
  rw [List.getD_eq_getElem?_getD, List.getD_eq_getElem?_getD, List.getElem?_eq_getElem hj, List.getElem?_eq_getElem (by omega)]
  exact this
theorem lgQ_at {i : Nat} (hj : i < (lgQ bb t pas q).length) : (lgQ bb t pas q).getD i 0 ∈ lgQ bb t pas q := by
  rw [List.getD_eq_getElem?_getD, List.getElem?_eq_getElem hj]
  exact List.getElem_mem _
theorem lgQ_own (h : x ∈ lgQ bb t pas q) : (0 ≤ x ∧ x < 8281) ∧ m_side (bb (x / 91)) = t ∧ m_side (bb (x % 91)) ≠ t := by
  have h1 := (lgQ_sub h).1
  have h2 := lg_move h1
  exact ⟨lgA_rg h1, h2.2.1.2.2.1, h2.2.1.2.2.2.2⟩
/-- counted by cells -/
theorem cntF_no : ∀ A : List Int, (∀ x ∈ A, x / 91 ≠ k) → cntF k A = 0
  | [], _ => rfl
  | x :: A, h => by
    rw [cntF, bI_f (h x List.mem_cons_self), cntF_no A (fun y hy => h y (List.mem_cons_of_mem _ hy))]
    rfl
theorem cntF_own (h : m_side (bb k) ≠ t) : cntF k (lgQ bb t pas q) = 0 :=
  cntF_no _ (fun x hx hz => h (by rw [← hz]; exact (lgQ_own hx).2.1))
theorem cntF_sm : ∀ A : List Int, (∀ x ∈ A, 0 ≤ x ∧ x < 8281) → sm (fun k => cntF k A) 91 = A.length
  | [], _ => sm_zero 91 (fun _ _ _ => rfl)
  | x :: A, h => by
    have hx := h x List.mem_cons_self
    rw [sm_add (f := fun k => cntF k (x :: A)) (g := fun k => bI (x / 91 = k)) (h := fun k => cntF k A) 91 (fun k _ _ => rfl), cntF_sm A (fun y hy => h y (List.mem_cons_of_mem _ hy)), List.length_cons]
    have e : sm (fun k => bI (x / 91 = k)) 91 = 1 := by
      rw [sm_bI1 91 (fun i j _ _ _ _ h1 h2 => by omega), bI_t ⟨x / 91, by omega, by omega, rfl⟩]
    rw [e]
    omega
theorem lgQ_sum : sm (fun k => cntF k (lgQ bb t pas q)) 91 = (lgQ bb t pas q).length := cntF_sm _ (fun x hx => (lgQ_own hx).1)
/-- what hangs -/
theorem hgd_sp : ∀ (n : Nat) (k best most : Int), 0 ≤ k → k + n ≤ 91 → 0 ≤ most → (best = -1 ∨ (0 ≤ best ∧ best < 91) ∧ ∃ mo, 0 ≤ mo ∧ hgc bb s best mo) → (hgd bb s n k best most = -1 ∨ (0 ≤ hgd bb s n k best most ∧ hgd bb s n k best most < 91) ∧ ∃ mo, 0 ≤ mo ∧ hgc bb s (hgd bb s n k best most) mo)
  | 0, k, best, most, _, _, _, h => h
  | n + 1, k, best, most, hk, hn, hm, h => by
    rw [hgd]
    by_cases c : hgc bb s k most
    · rw [if_pos c]
      exact hgd_sp n (k + 1) k _ (by omega) (by omega) m_wor_rg.1 (Or.inr ⟨by omega, most, hm, c⟩)
    · rw [if_neg c]
      exact hgd_sp n (k + 1) best most (by omega) (by omega) hm h
theorem hgd_ok : hgd bb s 91 0 (-1) 0 = -1 ∨ (0 ≤ hgd bb s 91 0 (-1) 0 ∧ hgd bb s 91 0 (-1) 0 < 91) ∧ m_side (bb (hgd bb s 91 0 (-1) 0)) = s ∧ bb (hgd bb s 91 0 (-1) 0) % 10 ≠ 1 ∧ 0 < m_att bb (hgd bb s 91 0 (-1) 0) (1 - s) ∧ m_att bb (hgd bb s 91 0 (-1) 0) s = 0 := by
  refine (hgd_sp (bb := bb) (s := s) 91 0 (-1) 0 (by omega) (by omega) (by omega) (Or.inl rfl)).imp id ?_
  rintro ⟨h1, mo, h2, h3, h4, h5, h6⟩
  refine ⟨h1, h3, fun z => ?_, h5, h6⟩
  rw [z] at h4
  rw [show m_wor 1 = 0 from rfl] at h4
  omega
/-- the last king -/
def kl (bb : Int → Int) (t : Int) : Nat → Int
  | 0 => -1
  | n + 1 => if bb (n : Int) = 10 * t + 1 then (n : Int) else kl bb t n
theorem kl_sp : ∀ n : Nat, (kl bb t n = -1 ∧ ∀ j : Int, 0 ≤ j → j < n → bb j ≠ 10 * t + 1) ∨ ((0 ≤ kl bb t n ∧ kl bb t n < n) ∧ bb (kl bb t n) = 10 * t + 1)
  | 0 => Or.inl ⟨rfl, fun j h1 h2 => by omega⟩
  | n + 1 => by
    rw [kl]
    by_cases c : bb (n : Int) = 10 * t + 1
    · rw [if_pos c]; exact Or.inr ⟨by omega, c⟩
    · rw [if_neg c]
      rcases kl_sp n with ⟨h1, h2⟩ | ⟨h1, h2⟩
      · refine Or.inl ⟨h1, fun j j0 j1 => ?_⟩
        by_cases z : j = n
        · rw [z]; exact c
        · exact h2 j j0 (by omega)
      · exact Or.inr ⟨by omega, h2⟩
theorem kl_king (hu : UK bb) (ht : t = 0 ∨ t = 1) : kl bb t 91 = m_king bb t := by
  rcases kl_sp (bb := bb) (t := t) 91 with ⟨h1, h2⟩ | ⟨h1, h2⟩
  · rw [h1]
    rcases m_king_rg bb t with h | ⟨h3, h4, h5⟩
    · exact h.symm
    · exact absurd h5 (h2 _ h3 (by omega))
  · rcases m_king_rg bb t with h | ⟨h3, h4, h5⟩
    · exact absurd h2 (m_kg_no 91 0 h (by omega) _ h1.1 (by omega))
    · exact hu t ht _ _ h1.1 (by omega) h3 h4 h2 h5
/-- the own king behind a move -/
theorem own_king (hb : MB bb) (hu : UK bb) (ht : t = 0 ∨ t = 1) (hp : PS bb t pas) (hV : MV bb t pas its to) (has : 2 ≤ as ∧ as ≤ 5) (hk : m_king bb t ≠ -1) (hc : ¬ m_chk (mk_bb bb pas its to 2) t) :
    (0 ≤ (if bb its % 10 = 1 then to else m_king bb t) ∧ (if bb its % 10 = 1 then to else m_king bb t) < 91) ∧ mk_bb bb pas its to as (if bb its % 10 = 1 then to else m_king bb t) % 10 = 1 ∧ m_att (mk_bb bb pas its to as) (if bb its % 10 = 1 then to else m_king bb t) (1 - t) = 0 := by
  obtain ⟨k0, k1, k2⟩ := (m_king_rg bb t).resolve_left hk
  have hPl := mk_pl_rg hb ht hp hV
  have huk := UK.mk (as := as) hu hb ht hV has
  obtain ⟨hi, hto, ho, hm, hn⟩ := id hV
  have hst := m_side_t hb ht ho
  have hside : m_side (bb (m_king bb t)) = t := by rw [k2]; unfold m_side; split <;> omega
  have hc2 : ¬ m_chk (mk_bb bb pas its to as) t := fun z => hc ((chk_as hb ht hV has).mp z)
  have key : ∀ w, 0 ≤ w → w < 91 → mk_bb bb pas its to as w = 10 * t + 1 → m_att (mk_bb bb pas its to as) w (1 - t) = 0 := by
    intro w w0 w1 hw
    obtain ⟨g0, g1, g2⟩ := (m_king_rg (mk_bb bb pas its to as) t).resolve_left (KG.mk hb ht hp hV has hk)
    have : w = m_king (mk_bb bb pas its to as) t := huk t ht _ _ w0 w1 g0 g1 hw g2
    rw [this]
    unfold m_chk at hc2
    have := (m_att_rg (mk_bb bb pas its to as) (m_king (mk_bb bb pas its to as) t) (1 - t)).1
    omega
  by_cases c : bb its % 10 = 1
  · rw [if_pos c]
    have e : mk_bb bb pas its to as to = 10 * t + 1 := by
      rw [mk_bb_at, if_pos rfl]
      unfold mk_th
      rw [if_neg (fun z => by omega)]
      omega
    exact ⟨hto, by rw [e]; omega, key to hto.1 hto.2 e⟩
  · rw [if_neg c]
    have e : mk_bb bb pas its to as (m_king bb t) = 10 * t + 1 := by
      rw [mk_bb_at, if_neg (fun z => hn (by rw [← z]; exact hside)), if_neg (fun z => c (by rw [← z, k2]; omega)), if_neg]
      · exact k2
      · intro z
        by_cases c2 : mk_pl bb pas its to = to
        · exact hn (by rw [← c2, ← z]; exact hside)
        · have := hPl.2.2 c2
          rw [← z] at this
          omega
    exact ⟨⟨k0, k1⟩, by rw [e]; omega, key _ k0 k1 e⟩
end PRNM
