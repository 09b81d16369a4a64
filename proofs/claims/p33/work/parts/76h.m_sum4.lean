/-! ===== the reference's sums, to their ends ===== -/
theorem pq_sp {t a1 : Int} (ty : (2 ≤ t ∧ t ≤ 6) ∨ t = 40) (h : 40 ≤ t ∨ t < a1) (n2 : ¬ t = 2) (ha : a1 = 3 ∨ a1 = 5) : t = 40 ∨ rk (pcv t) < (if a1 = 3 then 5 else 6) := by
  by_cases x : t = 40
  · exact Or.inl x
  · have r := rk_pcv (o := t) (by omega)
    rw [r.2.1, if_neg n2]
    refine Or.inr ?_
    rcases ha with e | e
    · omega
    · rw [if_pos (by omega), if_neg (by omega)]; decide
theorem S2_bin {g : ch_G} {A R : Nat} (hC : ck_Cx g A R) {d : Nat} {w : ck_W} {T X f E N n m kk B cm cl a1 o kap : Int} {b L Z : Int → Int} {s0 s2 : ck_W} {Q : ck_W → Prop} (hT : 0 ≤ T ∧ T ≤ 300) (hN : 0 ≤ N) (hB : tp b w) (hL : pL B L) (hcm : cm = 0 ∨ cm = 1) (ho : (a1 = 3 ∧ (o = 3 ∨ o = 4)) ∨ (a1 = 5 ∧ (o = 5 ∨ o = 6))) (hk : kap = pcv o)
    (hz : pz T X f E N n m w) (e2 : w 76 31 = 1) (tk : ¬ w 76 21 = 0) (c6 : w 76 29 ≤ 0 ∨ 40 ≤ w 90 (w 76 29 - 1) ∨ w 90 (w 76 29 - 1) < a1) (hQ : pq kk f B L Z cm cl s2 w) (hP : pl_n (w 90) (w 76 29)) (hP2 : w 76 29 ≤ 0 ∨ ¬ w 90 (w 76 29 - 1) = 2) (R1 : p_R b s0 (w 76 19) (p_tor s2 kap))
    (h : ∀ w', pr w w' → pz T X f E N n m w' → w 76 20 < w' 76 20 → sm b s0 kk f B cm cl L Z w' → Q w') : ck_CN (ch_C g A R) (d + 2) mX12_push [.inr (.inr 76), .inl o] w (fun w3 => ck_CN (ch_C g A R) (d + 2) mX12_nextToken [.inr (.inr 76)] (ck_up w3 76 31 0) (fun w4 => Q w4)) := by
  obtain ⟨k1, k2, k3, k4, k5, k6, k7, k8, k9, k10, k11⟩ := id hz
  have pb2 := pz_piled hz hN
  have op0 := pl_op0 (w 90) (w 76 29).toNat
  have sv := pl_svo (a1 := a1) k8 (by rw [show (((w 76 29).toNat : Nat) : Int) = w 76 29 by omega]; exact c6)
  have kap4 : 15 ≤ kap ∧ kap ≤ 18 := by
    rw [hk]
    unfold pcv
    rw [if_neg (by omega), if_neg (by omega)]
    omega
  refine e_X12_push hC ⟨by omega, by constructor <;> omega, ⟨rfl, ?_⟩⟩
  have f' : ∀ j, j ≠ 29 → j ≠ 31 → (ck_up (ck_up (ck_up w 90 (w 76 29) o) 76 29 (w 76 29 + 1)) 76 31 0) 76 j = w 76 j := fun j x y => by rw [ck_up_nj y, ck_up_nj x, ck_up_ne (by decide)]
  have f29 : (ck_up (ck_up (ck_up w 90 (w 76 29) o) 76 29 (w 76 29 + 1)) 76 31 0) 76 29 = w 76 29 + 1 := by rw [ck_up_nj (by decide), ck_up_eq]
  have f31 : (ck_up (ck_up (ck_up w 90 (w 76 29) o) 76 29 (w 76 29 + 1)) 76 31 0) 76 31 = 0 := ck_up_eq
  have f90' : (ck_up (ck_up (ck_up w 90 (w 76 29) o) 76 29 (w 76 29 + 1)) 76 31 0) 90 = rm_u (w 90) (w 76 29) o := by rw [ck_up_ne (by decide), ck_up_ne (by decide), ck_up_row]
  have f90 : (ck_up (ck_up (ck_up w 90 (w 76 29) o) 76 29 (w 76 29 + 1)) 76 31 0) 90 = rm_u (w 90) (((w 76 29).toNat : Nat) : Int) o := by rw [f90', show (((w 76 29).toNat : Nat) : Int) = w 76 29 by omega]
  have f79 : (ck_up (ck_up (ck_up w 90 (w 76 29) o) 76 29 (w 76 29 + 1)) 76 31 0) 79 = w 79 := rfl
  have p1 : pr w (ck_up (ck_up (ck_up w 90 (w 76 29) o) 76 29 (w 76 29 + 1)) 76 31 0) := ⟨fun k x y z => by rw [ck_up_ne x, ck_up_ne x, ck_up_ne z], fun j hj => f' j (by omega) (by omega), fun j _ => by rw [f79], by rw [f' 26 (by decide) (by decide)]; omega, fun q => by rw [f' 22 (by decide) (by decide)]; exact q⟩
  dsimp only
  generalize (ck_up (ck_up (ck_up w 90 (w 76 29) o) 76 29 (w 76 29 + 1)) 76 31 0) = u at *
  have e1 : (w 76 29 + 1).toNat = (w 76 29).toNat + 1 := by omega
  have cc := pl_c (p := w 90) (p' := rm_u (w 90) (((w 76 29).toNat : Nat) : Int) o) (n := (w 76 29).toNat) (fun k hk => rm_u_ne (by omega))
  have ca := pl_pac (p := w 90) (p' := rm_u (w 90) (((w 76 29).toNat : Nat) : Int) o) (n := (w 76 29).toNat) (fun k hk => rm_u_ne (by omega))
  have et : p_tor s2 kap = p_cmp (p_push s2 (pcv o)) kap := by
    unfold p_tor
    rw [if_neg (by omega), if_neg (by omega), ← hk]
  have Q1 : pq kk f B L Z cm cl (p_tor s2 kap) u := by
    rw [et]
    obtain ⟨q1, q2, q3⟩ := hQ
    have r := pqr_push (o := o) q3 hL.1.1 k6 (by have := hL.1; omega) (f' 24 (by decide) (by decide)) (f' 26 (by decide) (by decide)) f29 f79 f90' rfl
    have z10 : p_push s2 (pcv o) 0 10 = cm := by rw [p_push_0 (by decide)]; exact q1.1
    have z11 : p_push s2 (pcv o) 0 11 = cl := by rw [p_push_0 (by decide)]; exact q1.2.1
    have z12 : p_push s2 (pcv o) 0 12 = kk + 1 := by rw [p_push_0 (by decide)]; exact q1.2.2
    have z13 : p_push s2 (pcv o) 0 13 = w 76 30 := by rw [p_push_0 (by decide)]; exact q2.1
    have z14 : p_push s2 (pcv o) 0 14 = pl_pa (w 90) (w 76 29).toNat := by rw [p_push_0 (by decide)]; exact q2.2
    unfold p_cmp
    refine ⟨⟨?_, ?_, ?_⟩, ⟨?_, ?_⟩, pqr_s r (by simp [ck_up]) (by simp [ck_up]) (by simp [ck_up]) (by simp [ck_up])⟩
    · rw [ck_up_nj (by decide), ck_up_eq, z10]
      rcases hcm with e | e
      · rw [if_neg (by omega), e]
      · rw [if_pos (by omega), e]
    · rw [ck_up_nj (by decide), ck_up_nj (by decide)]; exact z11
    · rw [ck_up_nj (by decide), ck_up_nj (by decide)]; exact z12
    · rw [ck_up_nj (by decide), ck_up_nj (by decide), z13, f' 30 (by decide) (by decide)]
    · rw [ck_up_nj (by decide), ck_up_nj (by decide), z14, f29, f90, e1, pl_pa, ca, rm_u_eq, if_neg (by omega)]; omega
  have t9 : p_tor s2 kap 0 9 = 2 := by
    rw [et]
    unfold p_cmp
    rw [ck_up_eq, if_neg (by omega)]
  have P1 : pl_n (u 90) (u 76 29) := by
    rw [f90', f29]
    intro j j0 j1 j2
    by_cases x : j + 1 = w 76 29
    · rw [rm_u_ne (by omega), show j = w 76 29 - 1 by omega] at j2
      rcases hP2 with y | y
      · omega
      · exact absurd j2 y
    · rw [rm_u_ne (by omega)] at j2 ⊢
      exact hP j j0 (by omega) j2
  generalize p_tor s2 kap = s1 at *
  refine S2_next hC (T := T) (X := X) (s := f) (E := E) (N := N) (n := n) (m := m) hT (tp_pr hB p1) ⟨?_, ?_, ?_, ?_, ?_, ?_, ?_, ?_, ?_, ?_⟩ (fun w' d1 d2 d3 d4 d5 d6 => ⟨rfl, h w' (pr_tr p1 d1) d4 (by rw [f' 20 (by decide) (by decide)] at d5; exact d5) ⟨?_, s1, w 76 19, R1, ?_, Or.inl ⟨?_, Or.inl t9, ?_⟩⟩⟩)
  · rw [f' 19 (by decide) (by decide), f' 20 (by decide) (by decide)]; omega
  · rw [f' 22 (by decide) (by decide)]; exact k3
  · rw [f' 16 (by decide) (by decide), f' 24 (by decide) (by decide)]; exact k4
  · rw [f' 26 (by decide) (by decide)]; exact k5
  · rw [f29]; omega
  · rw [f29, f' 26 (by decide) (by decide), f' 20 (by decide) (by decide)]; omega
  · rw [f29, f90, e1]; exact pl_ok_push k8 (by omega) (fun x => sv.1 (by omega)) (fun x => sv.2 (by omega))
  · rw [f29, f' 30 (by decide) (by decide), f90, e1, pl_op, rm_u_eq, cc.1, if_neg (by omega)]; omega
  · rw [f31]; exact Or.inl rfl
  · rw [f29, f79, f90, f' 26 (by decide) (by decide), f31, e1, pl_b, rm_u_eq, cc.2.2, if_pos (by omega), k11, e2]
    rw [show n + (pl_b (w 90) (w 76 29).toNat + 1) + 0 = n + pl_b (w 90) (w 76 29).toNat + 1 by omega]
  · rw [d3 90 (by decide), d2 29 (by omega)]; exact P1
  · rw [f' 19 (by decide) (by decide)] at d6; exact d6
  · rw [d2 31 (by omega)]; exact f31
  · exact pq_u Q1 (d2 24 (by omega)) (d2 26 (by omega)) (d2 29 (by omega)) (d2 30 (by omega)) (d3 79 (by decide)) (d3 90 (by decide))
/-- a bracket is closed -/
theorem S2_cls {g : ch_G} {A R : Nat} (hC : ck_Cx g A R) {d : Nat} {w : ck_W} {T X f E N n m kk B cm cl : Int} {b L Z : Int → Int} {s0 s2 : ck_W} {Q : ck_W → Prop} (hT : 0 ≤ T ∧ T ≤ 300) (hX : 0 ≤ X ∧ X ≤ 2400) (hE : 0 ≤ kk ∧ kk ≤ E) (hN : 0 ≤ N) (hn : 0 ≤ n) (hB : tp b w) (hL : pL B L)
    (hz : pz T X f E N n m w) (e2 : w 76 31 = 1) (tk : ¬ w 76 21 = 0) (q3 : 0 < w 76 29) (top : w 90 (w 76 29 - 1) = 40) (hQ : pq kk f B L Z cm cl s2 w) (s9 : s2 0 9 = 3) (hP : pl_n (w 90) (w 76 29)) (R1 : p_R b s0 (w 76 19) (p_tor s2 20))
    (h : ∀ w', pr w w' → pz T X f E N n m w' → w 76 20 < w' 76 20 → sm b s0 kk f B cm cl L Z w' → Q w') : ck_i ((w 76 29) - 1) ∧ (ck_i ((w 76 30) - 1) ∧ (ck_CN (ch_C g A R) (d + 2) mX12_whole [.inr (.inr 76)] (ck_up (ck_up w 76 29 ((w 76 29) - 1)) 76 30 ((w 76 30) - 1)) (fun w31 => ck_CN (ch_C g A R) (d + 2) mX12_nextToken [.inr (.inr 76)] w31 (fun w32 => Q w32)))) := by
  obtain ⟨k1, k2, k3, k4, k5, k6, k7, k8, k9, k10, k11⟩ := id hz
  have pb2 := pz_piled hz hN
  have kn : (((w 76 29 - 1).toNat : Nat) : Int) = w 76 29 - 1 := by omega
  have e1 : (w 76 29).toNat = (w 76 29 - 1).toNat + 1 := by omega
  have opn : pl_op (w 90) (w 76 29).toNat = pl_op (w 90) (w 76 29 - 1).toNat + 1 := by rw [e1, pl_op, kn, if_pos (Or.inr top)]
  have bn : pl_b (w 90) (w 76 29).toNat = pl_b (w 90) (w 76 29 - 1).toNat := by rw [e1, pl_b, kn, if_neg (by omega)]; omega
  have pan : pl_pa (w 90) (w 76 29).toNat = pl_pa (w 90) (w 76 29 - 1).toNat + 1 := by rw [e1, pl_pa, kn, if_pos top]
  have op0 := pl_op0 (w 90) (w 76 29 - 1).toNat
  refine ⟨by constructor <;> omega, by constructor <;> omega, ?_⟩
  have f' : ∀ j, j ≠ 29 → j ≠ 30 → j ≠ 31 → (ck_up (ck_up (ck_up w 76 29 (w 76 29 - 1)) 76 30 (w 76 30 - 1)) 76 31 1) 76 j = w 76 j := fun j x y z => by rw [ck_up_nj z, ck_up_nj y, ck_up_nj x]
  have f29 : (ck_up (ck_up (ck_up w 76 29 (w 76 29 - 1)) 76 30 (w 76 30 - 1)) 76 31 1) 76 29 = w 76 29 - 1 := by rw [ck_up_nj (by decide), ck_up_nj (by decide), ck_up_eq]
  have f30 : (ck_up (ck_up (ck_up w 76 29 (w 76 29 - 1)) 76 30 (w 76 30 - 1)) 76 31 1) 76 30 = w 76 30 - 1 := by rw [ck_up_nj (by decide), ck_up_eq]
  have f31 : (ck_up (ck_up (ck_up w 76 29 (w 76 29 - 1)) 76 30 (w 76 30 - 1)) 76 31 1) 76 31 = 1 := ck_up_eq
  have f90 : (ck_up (ck_up (ck_up w 76 29 (w 76 29 - 1)) 76 30 (w 76 30 - 1)) 76 31 1) 90 = w 90 := rfl
  have f79 : (ck_up (ck_up (ck_up w 76 29 (w 76 29 - 1)) 76 30 (w 76 30 - 1)) 76 31 1) 79 = w 79 := rfl
  have p1 : pr w (ck_up (ck_up (ck_up w 76 29 (w 76 29 - 1)) 76 30 (w 76 30 - 1)) 76 31 1) := pr_tr (pr_tr (pr_up (by omega) (by omega) (by omega)) (pr_up (by omega) (by omega) (by omega))) (pr_up (by omega) (by omega) (by omega))
  refine e_X12_whole hC ?_
  generalize (ck_up (ck_up (ck_up w 76 29 (w 76 29 - 1)) 76 30 (w 76 30 - 1)) 76 31 1) = u at *
  have z3' : pz T X f E N n m u := by
    refine ⟨?_, ?_, ?_, ?_, ?_, ?_, ?_, ?_, ?_, ?_, ?_⟩
    · rw [f' 19 (by decide) (by decide) (by decide), f' 20 (by decide) (by decide) (by decide)]; exact k1
    · rw [f' 19 (by decide) (by decide) (by decide), f' 20 (by decide) (by decide) (by decide), f' 21 (by decide) (by decide) (by decide)]; exact k2
    · rw [f' 22 (by decide) (by decide) (by decide)]; exact k3
    · rw [f' 16 (by decide) (by decide) (by decide), f' 24 (by decide) (by decide) (by decide)]; exact k4
    · rw [f' 26 (by decide) (by decide) (by decide)]; exact k5
    · rw [f29]; omega
    · rw [f29, f' 26 (by decide) (by decide) (by decide), f' 20 (by decide) (by decide) (by decide)]; omega
    · rw [f29, f90]; rw [e1] at k8; exact pl_ok_pop k8
    · rw [f29, f30, f90]; omega
    · exact Or.inr f31
    · rw [f29, f31, f' 26 (by decide) (by decide) (by decide), f79, f90, k11, e2, bn]
  have et : p_tor s2 20 = ck_up (ck_up (ck_up s2 0 16 (max 0 (s2 0 16 - 1))) 0 14 (s2 0 14 - 1)) 0 13 (s2 0 13 - 1) := by
    unfold p_tor
    rw [if_pos rfl]
  have Q1 : pq kk f B L Z cm cl (p_tor s2 20) u := by
    rw [et]
    obtain ⟨q1, q2, q4, q5, q6, q7⟩ := hQ
    have hB0 := hL.1.1
    refine ⟨⟨?_, ?_, ?_⟩, ⟨?_, ?_⟩, ?_, ?_, ?_, pk_s (pk_u q7 (f' 24 (by decide) (by decide) (by decide)) (f' 26 (by decide) (by decide) (by decide)) f79) (by simp [ck_up]) (by simp [ck_up])⟩
    · simp [ck_up]; exact q1.1
    · simp [ck_up]; exact q1.2.1
    · simp [ck_up]; exact q1.2.2
    · rw [ck_up_eq, f30, q2.1]
    · rw [ck_up_nj (by decide), ck_up_eq, f29, f90, q2.2, pan]; omega
    · rw [ck_up_nj (by decide), ck_up_nj (by decide), ck_up_eq, f29, q4]; omega
    · intro i i0 i1
      simp [ck_up]
      exact q5 i i0 i1
    · intro j j0 j1
      rw [f29] at j1
      rw [f90]
      simp [ck_up]
      exact q6 j j0 (by omega)
  have t9 : p_tor s2 20 0 9 = 3 := by
    rw [et]
    simp [ck_up]
    exact s9
  generalize p_tor s2 20 = s1 at *
  refine L2_X12_whole hC hT hX hE hN hn hL 30 (by omega) z3' f31 Q1 (fun w3 d1 d2 d3 d4 d5 d6 d7 d8 => ⟨rfl, ?_⟩)
  obtain ⟨m1, m2, m3, m4, m5, m6, m7, m8, m9, m10, m11⟩ := id d3
  have g19 : w3 76 19 = w 76 19 := by rw [d2 19 (by omega), f' 19 (by decide) (by decide) (by decide)]
  have g20 : w3 76 20 = w 76 20 := by rw [d2 20 (by omega), f' 20 (by decide) (by decide) (by decide)]
  have g21 : w3 76 21 = w 76 21 := by rw [d2 21 (by omega), f' 21 (by decide) (by decide) (by decide)]
  refine S2_next hC hT (tp_pr hB (pr_tr p1 d1)) ⟨by omega, m3, m4, m5, m6, by omega, m8, m9, m10, m11⟩ (fun w' y1 y2 y3 y4 y5 y6 => ⟨rfl, h w' (pr_tr (pr_tr p1 d1) y1) y4 (by omega) ⟨?_, s1, w 76 19, R1, ?_, Or.inr ⟨?_, t9, ?_, ?_⟩⟩⟩)
  · rw [y3 90 (by decide), y2 29 (by omega), d5, f90]
    exact fun j j0 j1 => hP j j0 (by omega)
  · rw [← g19]; exact y6
  · rw [y2 31 (by omega)]; exact d4
  · exact pq_u d7 (y2 24 (by omega)) (y2 26 (by omega)) (y2 29 (by omega)) (y2 30 (by omega)) (y3 79 (by decide)) (y3 90 (by decide))
  · rw [y3 90 (by decide), y2 29 (by omega)]; exact d8
theorem S2_X12_behindOne {g : ch_G} {A R : Nat} (hC : ck_Cx g A R) {d : Nat} {K : Option ck_V → ck_W → Prop} {w : ck_W} {T X f E N n m kk B cm cl : Int} {b L Z : Int → Int} {s0 : ck_W} (hT : 0 ≤ T ∧ T ≤ 300) (hX : 0 ≤ X ∧ X ≤ 2400) (hE : 0 ≤ kk ∧ kk ≤ E) (hN : 0 ≤ N) (hn : 0 ≤ n) (hm : 0 ≤ m) (hB : tp b w) (hL : pL B L) (hcm : cm = 0 ∨ cm = 1) (hz : pz T X f E N n m w) (h31 : w 76 31 = 1) (hg : pz_go w) (hS : sm b s0 kk f B cm cl L Z w)
    (h : ∀ w', pr w w' → pz T X f E N n m w' → w 76 20 < w' 76 20 → sm b s0 kk f B cm cl L Z w' → K (some (.inl 0)) w') : ck_Ex (ch_C g A R) (d + 3) mX12_behindOne [.inr (.inr 76)] w K := by
  obtain ⟨h1, h2, h3, h4, h5, h6, h7, h8, h9, h10, h11⟩ := id hz
  obtain ⟨hP, s, p, hR, ⟨v, hl, hv2, hv3⟩, hD⟩ := hS
  clear hv2 hv3
  have hD' : s 0 9 = 3 ∧ pq kk f B L Z cm cl (p_U s 7) w ∧ (w 76 29 ≤ 0 ∨ ¬ w 90 (w 76 29 - 1) = 2) := by
    rcases hD with x | x
    · have := x.1; omega
    · exact x.2
  clear hD
  obtain ⟨s9, hQ, hP2⟩ := hD'
  have pb := pz_piled hz hN
  have tk : ¬ w 76 21 = 0 := by unfold pz_go at hg; omega
  have nn : 0 ≤ s 0 16 := p_U_nn (r := 7) (by have := hQ.2.2.1; have := hL.1; omega)
  have s14 : s 0 14 = pl_pa (w 90) (w 76 29).toNat := by
    have e := hQ.2.1.2
    rw [p_U_0 (by decide) (by decide) (by decide)] at e
    exact e
  obtain ⟨kap, hk⟩ : ∃ kap, kap = tk_k (w 76 21) (w 76 23) := ⟨_, rfl⟩
  rw [← hk] at hl
  have set : ∀ a1 (Q : ck_W → Prop), (a1 = 3 ∨ a1 = 5) → (∀ (w2 s2 : ck_W), pr w w2 → (∀ j, j ≠ 26 → j ≠ 29 → w2 76 j = w 76 j) → w2 90 = w 90 → (∀ k, 0 ≤ k → k < w 76 29 → w 90 k = 40 → k < w2 76 29) → (w2 76 29 ≤ 0 ∨ 40 ≤ w 90 (w2 76 29 - 1) ∨ w 90 (w2 76 29 - 1) < a1) → pz T X f E N n m w2 → pq kk f B L Z cm cl s2 w2 → (∀ r, r ≤ (if a1 = 3 then 5 else 6) → p_U s2 r = p_U s r) → (w2 76 29 ≤ 0 ∨ ¬ w 90 (w2 76 29 - 1) = 2) → w2 76 29 ≤ w 76 29 → Q w2) → ck_CN (ch_C g A R) (d + 2) mX12_settle [.inr (.inr 76), .inl a1] w Q := fun a1 Q ha k => e_X12_settle hC (L2_X12_settle hC hT hX hE hN hn hL ha 30 (by omega) hz h31 hQ hP hP2 (fun w2 s2 c1 c2 c3 c4 c5 c6 c7 c8 c9 c10 => ⟨rfl, k w2 s2 c1 c2 c3 c5 c6 c7 c8 (fun r hr => (c9 r hr).trans (p_UU (by split at hr <;> omega) nn)) c10 c4⟩))
  have bin : ∀ a1 o, (a1 = 3 ∧ (o = 3 ∨ o = 4)) ∨ (a1 = 5 ∧ (o = 5 ∨ o = 6)) → kap = pcv o → ∀ (w2 s2 : ck_W), pr w w2 → (∀ j, j ≠ 26 → j ≠ 29 → w2 76 j = w 76 j) → w2 90 = w 90 → (w2 76 29 ≤ 0 ∨ 40 ≤ w 90 (w2 76 29 - 1) ∨ w 90 (w2 76 29 - 1) < a1) → pz T X f E N n m w2 → pq kk f B L Z cm cl s2 w2 → (∀ r, r ≤ (if a1 = 3 then 5 else 6) → p_U s2 r = p_U s r) → (w2 76 29 ≤ 0 ∨ ¬ w 90 (w2 76 29 - 1) = 2) → w2 76 29 ≤ w 76 29 → ck_CN (ch_C g A R) (d + 2) mX12_push [.inr (.inr 76), .inl o] w2 (fun w3 => ck_CN (ch_C g A R) (d + 2) mX12_nextToken [.inr (.inr 76)] (ck_up w3 76 31 0) (fun w4 => K (some (.inl 0)) w4)) := by
    intro a1 o ho hko w2 s2 c1 c2 c3 c6 c7 c8 c9 c10 c4
    have rp := rk_pcv (o := o) (by omega)
    have rk1 : rk kap = (if a1 = 3 then 5 else 6) := by
      rw [hko, rp.2.1, if_neg (by omega)]
      rcases ho with ⟨x, y⟩ | ⟨x, y⟩
      · rw [if_pos (by omega), if_pos x]
      · rw [if_neg (by omega), if_neg (by omega)]
    have k15 : 15 ≤ kap ∧ kap ≤ 18 := by
      rw [hko]
      unfold pcv
      rw [if_neg (by omega), if_neg (by omega)]
      omega
    have st : p_U s2 (rk kap) = s2 := by
      rw [rk1]
      have k6 := c7.2.2.2.2.2.1
      refine pq_st c8 hL (by split <;> omega) k6 ?_
      by_cases x : w2 76 29 ≤ 0
      · exact Or.inl x
      · have ty := c7.2.2.2.2.2.2.2.1.1 (w2 76 29 - 1).toNat (by omega)
        rw [show (((w2 76 29 - 1).toNat : Nat) : Int) = w2 76 29 - 1 by omega, c3] at ty
        rw [c3]
        exact Or.inr (pq_sp ty (c6.resolve_left x) (c10.resolve_left x) (by omega))
    have eU : p_U s (rk kap) = s2 := by rw [← c9 (rk kap) (by omega), st]
    have cs : p_cs s kap := Or.inr (Or.inr (Or.inr ⟨s9, Or.inl k15⟩))
    have R1 := p_R_go hR hl (p_f0 (v := v) cs (by omega) (by omega) (by omega)) (by omega)
    have et : p_t s kap v = p_tor s2 kap := by
      unfold p_t
      rw [if_neg (by omega), if_pos s9, eU]
    rw [et] at R1
    refine S2_bin hC hT hN (tp_pr hB c1) hL hcm ho hko c7 (by rw [c2 31 (by decide) (by decide)]; exact h31) (by rw [c2 21 (by decide) (by decide)]; exact tk) (by rw [c3]; exact c6) c8 (by rw [c3]; exact fun j j0 j1 => hP j j0 (by omega)) (by rw [c3]; exact c10) (by rw [c2 19 (by decide) (by decide)]; exact R1) (fun w' d1 d2 d3 d4 => h w' (pr_tr c1 d1) d2 (by rw [c2 20 (by decide) (by decide)] at d3; exact d3) d4)
  have kop : ∀ t o, w 76 21 = t → (∀ x, tk_k t x = pcv o) → kap = pcv o := fun t o e q => by rw [hk, e]; exact q _
  refine e_X12_behindOne hC ?_
  have sum : (w 76 21 = 43 ∨ w 76 21 = 45) → ck_CN (ch_C g A R) (d + 2) mX12_settle [.inr (.inr 76), .inl 3] w (fun w2 => (¬ (w 76 21) = 43 → ck_CN (ch_C g A R) (d + 2) mX12_push [.inr (.inr 76), .inl 4] w2 (fun w3 => ck_CN (ch_C g A R) (d + 2) mX12_nextToken [.inr (.inr 76)] (ck_up w3 76 31 0) (fun w4 => K (some (.inl 0)) w4))) ∧ ((w 76 21) = 43 → ck_CN (ch_C g A R) (d + 2) mX12_push [.inr (.inr 76), .inl 3] w2 (fun w7 => ck_CN (ch_C g A R) (d + 2) mX12_nextToken [.inr (.inr 76)] (ck_up w7 76 31 0) (fun w8 => K (some (.inl 0)) w8)))) := fun t => set 3 _ (Or.inl rfl) (fun w2 s2 c1 c2 c3 c5 c6 c7 c8 c9 c10 c4 => ⟨fun y => bin 3 4 (by omega) (kop 45 4 (by omega) (fun _ => rfl)) w2 s2 c1 c2 c3 c6 c7 c8 c9 c10 c4, fun y => bin 3 3 (by omega) (kop 43 3 y (fun _ => rfl)) w2 s2 c1 c2 c3 c6 c7 c8 c9 c10 c4⟩)
  have pro : (w 76 21 = 42 ∨ w 76 21 = 47) → ck_CN (ch_C g A R) (d + 2) mX12_settle [.inr (.inr 76), .inl 5] w (fun w14 => (¬ (w 76 21) = 42 → ck_CN (ch_C g A R) (d + 2) mX12_push [.inr (.inr 76), .inl 6] w14 (fun w15 => ck_CN (ch_C g A R) (d + 2) mX12_nextToken [.inr (.inr 76)] (ck_up w15 76 31 0) (fun w16 => K (some (.inl 0)) w16))) ∧ ((w 76 21) = 42 → ck_CN (ch_C g A R) (d + 2) mX12_push [.inr (.inr 76), .inl 5] w14 (fun w19 => ck_CN (ch_C g A R) (d + 2) mX12_nextToken [.inr (.inr 76)] (ck_up w19 76 31 0) (fun w20 => K (some (.inl 0)) w20)))) := fun t => set 5 _ (Or.inr rfl) (fun w2 s2 c1 c2 c3 c5 c6 c7 c8 c9 c10 c4 => ⟨fun y => bin 5 6 (by omega) (kop 47 6 (by omega) (fun _ => rfl)) w2 s2 c1 c2 c3 c6 c7 c8 c9 c10 c4, fun y => bin 5 5 (by omega) (kop 42 5 y (fun _ => rfl)) w2 s2 c1 c2 c3 c6 c7 c8 c9 c10 c4⟩)
  refine ⟨fun z => sum (Or.inl z), fun z1 => ⟨fun z2 => ⟨fun z => pro (Or.inl z), fun z3 => ⟨fun z4 => ?_, fun z => pro (Or.inr z)⟩⟩, fun z => sum (Or.inr z)⟩⟩
  -- a bracket is closed
  obtain ⟨t41, kj, q0, q1, q2⟩ : w 76 21 = 41 ∧ ∃ k, 0 ≤ k ∧ k < w 76 29 ∧ w 90 k = 40 := by
    rcases hg with x | x | x | x | x
    · exact absurd x z1
    · exact absurd x z2
    · exact absurd x z3
    · exact absurd x z4
    · exact x
  have k20 : kap = 20 := by rw [hk, t41]; rfl
  rw [k20] at hl
  have pos := pl_pap (p := w 90) q0 q2 (w 76 29).toNat (by omega)
  have cs : p_cs s 20 := Or.inr (Or.inr (Or.inr ⟨s9, Or.inr (Or.inl ⟨by omega, rfl⟩)⟩))
  have R1 := p_R_go hR hl (p_f0 (v := v) cs (by omega) (by omega) (by omega)) (by decide)
  refine set 3 _ (Or.inl rfl) (fun w2 s2 c1 c2 c3 c5 c6 c7 c8 c9 c10 c4 => ?_)
  have q3 := c5 kj q0 q1 q2
  have ty := c7.2.2.2.2.2.2.2.1.1 (w2 76 29 - 1).toNat (by omega)
  rw [show (((w2 76 29 - 1).toNat : Nat) : Int) = w2 76 29 - 1 by omega, c3] at ty
  have top : w2 90 (w2 76 29 - 1) = 40 := by rw [c3]; omega
  have st : p_U s2 0 = s2 := by
    have d6 := c8.2.2.1
    refine p_Ust (Or.inr (Or.inl ?_))
    rw [show s2 0 16 - 1 = B + (w2 76 29 - 1) by omega, c8.2.2.2.2.1 _ (by omega) (by omega), top]
    rfl
  have eU : p_U s 0 = s2 := by rw [← c9 0 (by decide), st]
  have et : p_t s 20 v = p_tor s2 20 := by
    unfold p_t
    rw [if_neg (by omega), if_pos s9, show rk 20 = 0 from rfl, eU]
  rw [et] at R1
  have s29 : s2 0 9 = 3 := by rw [← eU, p_U_0 (by decide) (by decide) (by decide)]; exact s9
  exact S2_cls hC hT hX hE hN hn (tp_pr hB c1) hL c7 (by rw [c2 31 (by decide) (by decide)]; exact h31) (by rw [c2 21 (by decide) (by decide)]; exact tk) (by omega) top c8 s29 (by rw [c3]; exact fun j j0 j1 => hP j j0 (by omega)) (by rw [c2 19 (by decide) (by decide)]; exact R1) (fun w' d1 d2 d3 d4 => h w' (pr_tr c1 d1) d2 (by rw [c2 20 (by decide) (by decide)] at d3; exact d3) d4)
