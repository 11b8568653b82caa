section PINK
variable {d b g r a w n n' : Nat} {T T1 T2 : pT} {M M1 M2 : pM} {F F1 F2 : pF}
/-- what lies below n, the cabinet's own cell aside, is as it was -/
def SX (n : Nat) (T : pT) (M : pM) (F : pF) (T' : pT) (M' : pM) (F' : pF) : Prop := s_mono T T' ∧ T.1.1 = n ∧ ∀ a, a < n → a ≠ 100 → M' a = M a ∧ F' a = F a
theorem SX.tr (h : SX n T M F T1 M1 F1) (h' : SX n' T1 M1 F1 T2 M2 F2) : SX n T M F T2 M2 F2 := ⟨h.1.tr h'.1, h.2.1, fun a ha hx => ⟨((h'.2.2 a (by have := h.1.1; have := h.2.1; have := h'.2.1; omega) hx).1).trans (h.2.2 a ha hx).1, ((h'.2.2 a (by have := h.1.1; have := h.2.1; have := h'.2.1; omega) hx).2).trans (h.2.2 a ha hx).2⟩⟩
theorem SX.tt (h : SX n T M F T1 M1 F1) (ha : 101 ≤ a ∧ a + 1 < n) (hT : TT T F a) : TT T1 F1 a := by
  obtain ⟨c1, c2, c3⟩ := h
  unfold TT at *
  rw [c1.2.2 a (by omega), c1.2.2 (a + 1) (by omega), (c3 a (by omega) (by omega)).2]
  exact hT
theorem SX.rt (h : SX n T M F T1 M1 F1) (ha : 101 ≤ a ∧ a + 3 < n) (hT : RT T F a) : RT T1 F1 a := by
  obtain ⟨c1, c2, c3⟩ := h
  unfold RT at *
  rw [c1.2.2 a (by omega), c1.2.2 (a + 1) (by omega), c1.2.2 (a + 2) (by omega), c1.2.2 (a + 3) (by omega), (c3 a (by omega) (by omega)).2]
  exact hT
theorem SX.wt (h : SX n T M F T1 M1 F1) (ha : 101 ≤ a ∧ a + 4 < n) (hT : WT T F a) : WT T1 F1 a := by
  obtain ⟨c1, c2, c3⟩ := h
  unfold WT BT at *
  rw [c1.2.2 a (by omega), c1.2.2 (a + 1) (by omega), c1.2.2 (a + 1 + 1) (by omega), c1.2.2 (a + 3) (by omega), c1.2.2 (a + 4) (by omega), (c3 a (by omega) (by omega)).2, (c3 (a + 1) (by omega) (by omega)).2]
  exact hT
theorem SX.gt (h : SX n T M F T1 M1 F1) (ha : 101 ≤ a ∧ a + 6 < n) (hT : GT T F a) : GT T1 F1 a := by
  obtain ⟨c1, c2, c3⟩ := h
  unfold GT BT at *
  rw [c1.2.2 a (by omega), c1.2.2 (a + 1) (by omega), c1.2.2 (a + 1 + 1) (by omega), c1.2.2 (a + 3) (by omega), c1.2.2 (a + 4) (by omega), c1.2.2 (a + 5) (by omega), c1.2.2 (a + 6) (by omega), (c3 a (by omega) (by omega)).2, (c3 (a + 1) (by omega) (by omega)).2]
  exact hT
/-- a thing is built and kept in the cabinet's cell -/
theorem sx_put {x : Int} {tag sz : Nat} (hn : T.1.1 = n) (h1 : 101 ≤ n) (h : IX n (p_new T tag sz) (uA M n (fun _ => 0)) (uA F n (fun _ => none)) T1 M1 F1) : SX n T M F T1 M1 (uA F1 100 (u1 (F 100) x (some n))) ∧ M1 100 = M 100 ∧ F1 100 = F 100 ∧ p_ty T1 100 = p_ty T 100 := by
  refine ⟨⟨s_mono.new.tr h.1, hn, fun a ha hx => ⟨(h.2 a ha).1.trans (uA_n (by omega)), ?_⟩⟩, (h.2 100 (by omega)).1.trans (uA_n (by omega)), (h.2 100 (by omega)).2.trans (uA_n (by omega)), (s_mono.new.tr h.1).2.2 100 (by omega)⟩
  rw [uA_n hx]
  exact (h.2 a ha).2.trans (uA_n (by omega))
theorem p_tw {tag sz : Nat} (h : T.1.1 = n) (hn : 100 ≤ n) : p_ty (p_new T tag sz) n = (tag, sz) := by rw [← h]; exact p_ty_nw (by omega)
theorem i_cab (t0 : p_ty T 100 = (17, 7)) (hn : T.1.1 = 101) :
    ∃ T' M' F', (∀ d, 6 ≤ d → callD d m_X7_init [.ref 100] T M F = some (.inl none, T', M', F')) ∧ T'.1.1 = 127 ∧ T'.1.2 = T.1.2 + 7523 ∧ CW T' M' F' z_new (-1) (fun _ => 0) 0 ∧ s_mono T T' ∧ (∀ a, a < 100 → M' a = M a ∧ F' a = F a) := by
  -- the tape
  obtain ⟨Ta, Ma, Fa, ra, na, sa, tta, tsa, ia⟩ := i_tape (a := 101) (T := p_new T 14 2) (M := uA M 101 (fun _ => 0)) (F := uA F 101 (fun _ => none)) (by omega) (p_tw hn (by omega)) (by rw [p_nn, hn])
  have na : Ta.1.1 = 103 := na
  obtain ⟨xa, ma, fa, ya⟩ := sx_put (x := 0) hn (by omega) ia
  rw [t0] at ya
  -- the reader
  obtain ⟨Tb, Mb, Fb, rb, nb, sb, rtb, ib⟩ := i_reader (r := 103) (T := p_new Ta 13 4) (M := uA Ma 103 (fun _ => 0)) (F := uA (uA Fa 100 (u1 (F 100) 0 (some 101))) 103 (fun _ => none)) (by omega) (p_tw na (by omega)) (by rw [p_nn, na])
  have nb : Tb.1.1 = 107 := nb
  obtain ⟨xb, mb, fb, yb⟩ := sx_put (x := 1) na (by omega) ib
  rw [uA_s] at xb fb
  rw [ma] at mb
  rw [ya] at yb
  -- the teacher
  have tc0 : p_ty (p_new Tb 15 1) 107 = (15, 1) := p_tw nb (by omega)
  obtain ⟨Mc, rc, ic⟩ := i_teacher (a := 107) (T := p_new Tb 15 1) (M := uA Mb 107 (fun _ => 0)) (F := uA (uA Fb 100 (u1 (u1 (F 100) 0 (some 101)) 1 (some 103))) 107 (fun _ => none)) (by omega) tc0
  have nc : (p_new Tb 15 1).1.1 = 108 := by rw [p_nn, nb]
  obtain ⟨xc, mc, fc, yc⟩ := sx_put (x := 2) nb (by omega) ic
  rw [uA_s] at xc fc
  rw [mb] at mc
  rw [yb] at yc
  -- the walk
  obtain ⟨Td, Md, Fd, rd, nd, sd, wtd, rbd, id'⟩ := i_walk (w := 108) (T := p_new (p_new Tb 15 1) 16 4) (M := uA Mc 108 (fun _ => 0)) (F := uA (uA (uA (uA Fb 100 (u1 (u1 (F 100) 0 (some 101)) 1 (some 103))) 107 (fun _ => none)) 100 (u1 (u1 (u1 (F 100) 0 (some 101)) 1 (some 103)) 2 (some 107))) 108 (fun _ => none)) (by omega) (p_tw nc (by omega)) (by rw [p_nn, nc])
  have nd : Td.1.1 = 113 := nd
  obtain ⟨xd, md, fd, yd⟩ := sx_put (x := 3) nc (by omega) id'
  rw [uA_s] at xd fd
  rw [mc] at md
  rw [yc] at yd
  -- the game
  obtain ⟨Te, Me, Fe, re, ne, se, gte, gae, bve, ie⟩ := i_game (g := 113) (T := p_new Td 11 14) (M := uA Md 113 (fun _ => 0)) (F := uA (uA Fd 100 (u1 (u1 (u1 (u1 (F 100) 0 (some 101)) 1 (some 103)) 2 (some 107)) 3 (some 108))) 113 (fun _ => none)) (by omega) (p_tw nd (by omega)) (by rw [p_nn, nd])
  have ne : Te.1.1 = 120 := ne
  obtain ⟨xe, me, fe, ye⟩ := sx_put (x := 4) nd (by omega) ie
  rw [uA_s] at xe fe
  rw [md] at me
  rw [yd] at ye
  -- the draft
  obtain ⟨Tf, Mf, Ff, rf, nf, sf, gtf, gaf, bvf, if'⟩ := i_game (g := 120) (T := p_new Te 11 14) (M := uA Me 120 (fun _ => 0)) (F := uA (uA Fe 100 (u1 (u1 (u1 (u1 (u1 (F 100) 0 (some 101)) 1 (some 103)) 2 (some 107)) 3 (some 108)) 4 (some 113))) 120 (fun _ => none)) (by omega) (p_tw ne (by omega)) (by rw [p_nn, ne])
  have nf : Tf.1.1 = 127 := nf
  obtain ⟨xf, mf, ff, yf⟩ := sx_put (x := 5) ne (by omega) if'
  rw [uA_s] at xf ff
  rw [me] at mf
  rw [ye] at yf
  have X2 := xb.tr ((xc.tr (xd.tr (xe.tr xf))))
  have X4 := xd.tr (xe.tr xf)
  have X5 := xe.tr xf
  obtain ⟨F', hF⟩ : ∃ F' : pF, F' = uA Ff 100 (u1 (u1 (u1 (u1 (u1 (u1 (F 100) 0 (some 101)) 1 (some 103)) 2 (some 107)) 3 (some 108)) 4 (some 113)) 5 (some 120)) := ⟨_, rfl⟩
  obtain ⟨M', hM⟩ : ∃ M' : pM, M' = uA Mf 100 (u1 (M 100) 6 (-1)) := ⟨_, rfl⟩
  rw [← hF] at X2 X4 X5 xf
  have f100 : F' 100 = u1 (u1 (u1 (u1 (u1 (u1 (F 100) 0 (some 101)) 1 (some 103)) 2 (some 107)) 3 (some 108)) 4 (some 113)) 5 (some 120) := by rw [hF, uA_s]
  have mo : ∀ a, a ≠ 100 → M' a = Mf a := fun a ha => by rw [hM, uA_n ha]
  have fo : ∀ {G : pF} {v : Int → Option Nat} {c : Nat}, c ≠ 100 → uA G 100 v c = G c := fun hc => uA_n hc
  refine ⟨Tf, M', F', fun d hd => ?_, nf, ?_, ⟨113, 120, ⟨yf, ⟨?_, ?_, ?_, ?_, ?_, ?_⟩, ?_, ?_, ?_, ?_, ?_, ?_, Or.inl ⟨rfl, rfl⟩⟩, ?_, ?_, ⟨?_, ?_, by omega, fun _ => by show (0 : Int) ≤ 0 ∧ (0 : Int) < 256; omega⟩, by rw [hM, uA_s, u1_s], ?_⟩, xa.1.tr (xb.1.tr ((xc.1.tr (xd.1.tr (xe.1.tr xf.1))))), fun a ha => ⟨?_, ?_⟩⟩
  · refine callD_go 5 hd rfl (fun e he => ?_)
    show R e m_X7_init 0 [.val (.ref 100)] [] T M F = _
    have ra := ra e (by omega)
    have rb := rb e (by omega)
    have rc := rc e (by omega)
    have rd := rd e (by omega)
    have re := re e (by omega)
    have rf := rf e (by omega)
    have p1 : p_ty (p_new T 14 2) 101 = (14, 2) := p_tw hn (by omega)
    have p2 : p_ty (p_new Ta 13 4) 103 = (13, 4) := p_tw na (by omega)
    have p4 : p_ty (p_new (p_new Tb 15 1) 16 4) 108 = (16, 4) := p_tw nc (by omega)
    have p5 : p_ty (p_new Td 11 14) 113 = (11, 14) := p_tw nd (by omega)
    have p6 : p_ty (p_new Te 11 14) 120 = (11, 14) := p_tw ne (by omega)
    rw [hM, hF]
    clear tta tsa ia xa ma sa sb rtb ib xb mb ic xc mc sd wtd rbd id' xd md se gte gae bve ie xe me sf gtf gaf bvf if' xf X2 X4 X5 f100 mo fo hM hF
    simp (disch := omega) only [x_X7_init_0, x_X7_init_1, x_X7_init_4, x_X7_init_5, x_X7_init_8, x_X7_init_9, x_X7_init_12, x_X7_init_15, x_X7_init_16, x_X7_init_19, x_X7_init_20, x_X7_init_23, x_X7_init_26, x_X7_init_27, x_X7_init_30, x_X7_init_31, x_X7_init_34, x_X7_init_37, x_X7_init_38, x_X7_init_41, x_X7_init_42, x_X7_init_45, x_X7_init_48, x_X7_init_49, x_X7_init_52, x_X7_init_53, x_X7_init_56, x_X7_init_59, x_X7_init_60, x_X7_init_63, x_X7_init_64, x_X7_init_67, x_X7_init_70, x_X7_init_71, x_X7_init_72, x_X7_init_75, List.length_cons, List.length_nil, Nat.reduceLeDiff, Nat.zero_add, iI_add, iI_sub, iI_mul, iI_neg, iI_lt, iI_le, iI_eq, jI_iI, B_True, B_False, B_t, B_f, ck_True, gd_True, cb_v, cb_n, p_mv_rw, p_fv_rw, p_rv_some, pA_1, pA_90, pA_92, pA_3, pA_5, pA_93, pA_4, pA_91, pA_6, pS_i, pB_i, pW_i, pZ_0, pZ_1, pZ_b, bI_e0, u1_s, u1_n, uA_s, uA_n, true_and, and_true, not_true_eq_false, not_false_eq_true, eq_self, iI_z, al1, al5, al3, al4, al90, al91, al92, al93, al6, Int.cast_ofNat_Int, Nat.reduceAdd, Int.reduceNeg, Int.reduceAdd, Int.reduceSub, Int.reduceMul, Int.reduceLT, Int.reduceLE, Int.reduceGT, Int.reduceGE, Int.reduceEq, Int.reduceNe, Nat.reduceEqDiff, Int.zero_add, Int.add_zero, p_ty0, p_ty1, p_ty2, p_ty3, p_ty4, p_ty5, p_ty8, p_ty9, p_ty10, t0, hn, na, nb, nc, nd, ne, nf, ya, yb, yc, yd, ye, yf, fa, fb, fc, fd, fe, ff, mf, p1, p2, tc0, p4, p5, p6, ra, rb, rc, rd, re, rf, uA_uA, gd_t, ck_t]
  · have k0 : (p_new T 14 2).1.2 = T.1.2 + 2 := rfl
    have k1 : (p_new Ta 13 4).1.2 = Ta.1.2 + 4 := rfl
    have k2 : (p_new (p_new Tb 15 1) 16 4).1.2 = Tb.1.2 + 1 + 4 := rfl
    have k3 : (p_new Td 11 14).1.2 = Td.1.2 + 14 := rfl
    have k4 : (p_new Te 11 14).1.2 = Te.1.2 + 14 := rfl
    omega
  · rw [f100, u1_n (by decide), u1_n (by decide), u1_n (by decide), u1_n (by decide), u1_n (by decide), u1_s]
  · rw [f100, u1_n (by decide), u1_n (by decide), u1_n (by decide), u1_n (by decide), u1_s]
  · rw [f100, u1_n (by decide), u1_n (by decide), u1_n (by decide), u1_s]
  · rw [f100, u1_n (by decide), u1_n (by decide), u1_s]
  · rw [f100, u1_n (by decide), u1_s]
  · rw [f100, u1_s]
  · refine X2.tt (by omega) ?_
    unfold TT at *
    rw [fo (by omega)]; exact tta
  · refine (xc.tr X4).rt (by omega) ?_
    unfold RT at *
    rw [fo (by omega)]; exact rtb
  · exact (X4.1.2.2 107 (by omega)).trans tc0
  · refine X5.wt (by omega) ?_
    unfold WT BT at *
    rw [fo (by omega), fo (by omega)]; exact wtd
  · refine xf.gt (by omega) ?_
    unfold GT BT at *
    rw [fo (by omega), fo (by omega)]; exact gte
  · unfold GT BT at *
    rw [hF, fo (by omega), fo (by omega)]; exact gtf
  · refine GAx.fr gae (fun a h1 h2 => ?_)
    rw [mo a (by omega)]
    exact (xf.2.2 a (by omega) (by omega)).1
  · rw [mo _ (by omega)]; exact bvf
  · rw [mo 102 (by omega), (X2.2.2 102 (by omega) (by omega)).1]; exact tsa.1
  · rw [mo 101 (by omega), (X2.2.2 101 (by omega) (by omega)).1]; exact tsa.2.1
  · unfold RB at *
    rw [mo 109 (by omega), mo (109 + 1) (by omega), (X5.2.2 109 (by omega) (by omega)).1, (X5.2.2 (109 + 1) (by omega) (by omega)).1]; exact rbd
  · have XX := xa.tr X2
    rw [mo a (by omega)]; exact (XX.2.2 a (by omega) (by omega)).1
  · have XX := xa.tr X2
    exact (XX.2.2 a (by omega) (by omega)).2
end PINK
