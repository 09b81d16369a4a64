/-! ===== the law's cases: a pair of calls keeps the joint invariant ===== -/
theorem cj_Nm {A R : Nat} {u u' : ck_W} (h : cj_N A R u) (a : u' 3 6 = u 3 6 ∨ (0 ≤ u' 3 6 ∧ u' 3 6 ≤ 20)) (b : u' 6 = u 6 ∨ cs_T u') (c : u' 4 = u 4 ∨ cs_Y A R u') (d : u' 5 = u 5 ∨ cs_Yc A R u') (e : (u' 8 = u 8 ∧ u' 9 = u 9) ∨ cs_K R u') (f : (u' 10 3 = u 10 3 ∧ u' 11 = u 11 ∧ u' 12 = u 12) ∨ cs_Cd u') (f2 : (u' 10 5 = u 10 5 ∧ u' 14 = u 14) ∨ cs_B u') (x : (u' 15 = u 15 ∧ u' 16 = u 16 ∧ u' 17 = u 17 ∧ u' 18 = u 18 ∧ u' 19 = u 19) ∨ cs_X u') (p : (u' 20 = u 20 ∧ u' 21 = u 21 ∧ u' 22 = u 22 ∧ u' 23 = u 23 ∧ u' 24 = u 24) ∨ cs_P u') : cj_N A R u' := by
  obtain ⟨n1, ⟨n2, n3, n4⟩, n5, ⟨n6, n7⟩, n8, n9⟩ := h
  refine ⟨?_, ⟨?_, ?_, ?_⟩, ?_, ⟨?_, ?_⟩, ?_, ?_⟩
  · rcases a with a | a
    · rw [a]; exact n1
    · exact a
  · rcases b with a | a
    · unfold cs_T; rw [a]; exact n2
    · exact a
  · rcases c with a | a
    · unfold cs_Y; rw [a]; exact n3
    · exact a
  · rcases d with a | a
    · unfold cs_Yc; rw [a]; exact n4
    · exact a
  · rcases e with a | a
    · unfold cs_K; rw [a.1, a.2]; exact n5
    · exact a
  · rcases f with a | a
    · unfold cs_Cd; rw [a.1, a.2.1, a.2.2]; exact n6
    · exact a
  · rcases f2 with a | a
    · unfold cs_B; rw [a.1, a.2]; exact n7
    · exact a
  · rcases x with a | a
    · unfold cs_X cs_L cs_Lw cs_H; rw [a.1, a.2.1, a.2.2.1, a.2.2.2.1, a.2.2.2.2]; exact n8
    · exact a
  · rcases p with a | a
    · unfold cs_P; rw [a.1, a.2.1, a.2.2.1, a.2.2.2.1, a.2.2.2.2]; exact n9
    · exact a
/-- the rows that are coupled are as they were -/
def cj_Ce (w w1 : ck_W) : Prop := w1 3 6 = w 3 6 ∧ w1 7 = w 7 ∧ w1 8 1 = w 8 1 ∧ w1 10 5 = w 10 5 ∧ w1 14 = w 14 ∧ w1 15 2 = w 15 2 ∧ w1 15 5 = w 15 5 ∧ w1 18 = w 18 ∧ w1 20 3 = w 20 3
theorem cj_Ce_rf {w : ck_W} : cj_Ce w w := ⟨rfl, rfl, rfl, rfl, rfl, rfl, rfl, rfl, rfl⟩
theorem cj_Cc {A R : Nat} {g : ch_G} (hC : ck_Cx g A R) {u u' : ck_W} {f f' : Int → Int} (h : cj_C A R u f) (hf : rm_A A R f) (ce : cj_Ce u u') (ef : ∀ j, (1 ≤ j ∧ j ≤ 6) ∨ (900 ≤ j ∧ j < 1250) ∨ (1300 ≤ j ∧ j < 1348) → f' j = f j) (hX : cj_X A R u' f') : cj_C A R u' f' := by
  obtain ⟨s3, s7, s8, s10, s14, s152, s155, s18, s20⟩ := ce
  have c := rm_c0 hf
  obtain ⟨a1, a2, a3, a4, a5, a6, a7⟩ := h
  exact ⟨cj_p_fr hC a1 (by omega) s3 (fun _ _ _ => by rw [s7]) (fun j hj => ef j (by omega)), cj_b_fr hC a2 (by omega) s10 (fun _ _ _ => by rw [s14]) (fun j hj => ef j (by omega)), cj_w_fr a3 (by omega) s155 (fun _ _ _ => by rw [s18]) (fun j hj => ef j (by omega)), by rw [s8, ef 2 (by omega)]; exact a4, by rw [s152, ef 4 (by omega)]; exact a5, by rw [s20, ef 6 (by omega)]; exact a6, hX⟩
theorem cj_ends {A R : Nat} {g : ch_G} (hC : ck_Cx g A R) {w w1 w2 : ck_W} (hJ : cj_J A R w) (h1 : cj_JC A R w1) (e : ∀ k, (27 ≤ k ∧ k ≤ 48) ∨ (67 ≤ k ∧ k ≤ 68) ∨ 76 ≤ k → w1 k = w k) (ce : cj_Ce w w1) (a : cj_Cf w w1) (i2 : rm_I A R w2) (fr : rm_fr w1 w2) (e78 : w2 78 = w1 78) (f76 : w2 76 = w1 76) (ef : ∀ j, (0 ≤ j ∧ j ≤ 6) ∨ (900 ≤ j ∧ j < 1264) ∨ (1300 ≤ j ∧ j < 1348) → w2 77 j = w1 77 j) (hX : cj_X A R w1 (w2 77)) : cj_J A R w2 :=
  cj_end hC hJ h1 e i2 fr e78 (cj_Cc hC hJ.2.2.1 hJ.2.1.2.2.2.1 ce (fun j hj => by rw [ef j (by omega), e 77 (by omega)]) hX) a f76 (fun j hj => ef j (by omega))
theorem cj_Xm {A R : Nat} {g : ch_G} (hC : ck_Cx g A R) {u u' : ck_W} {f f' : Int → Int} (h : cj_X A R u f) (hf : rm_A A R f) (a : (u' 4 = u 4 ∧ u' 5 = u 5 ∧ ∀ j, 20 ≤ j → j < 900 → f' j = f j) ∨ cx_g A R u' f') (b : (u' 6 = u 6 ∧ ∀ j, 10 ≤ j → j < 16 → f' j = f j) ∨ cx_t u' f') (c : (u' 7 = u 7 ∧ ∀ j, j = 1 ∨ (900 ≤ j ∧ j < 960) → f' j = f j) ∨ cx_p u' f') (k : (u' 8 2 = u 8 2 ∧ u' 9 = u 9 ∧ ∀ j, j = 2 ∨ j = 7 ∨ (970 ≤ j ∧ j < 1000) → f' j = f j) ∨ cx_k u' f') (l : (u' 16 = u 16 ∧ u' 17 = u 17 ∧ ∀ j, j = 4 ∨ (1270 ≤ j ∧ j < 1294) → f' j = f j) ∨ cx_l u' f') (m : (u' 15 6 = u 15 6 ∧ u' 15 7 = u 15 7 ∧ u' 19 = u 19 ∧ ∀ j, j = 5 ∨ j = 8 ∨ j = 9 ∨ (1300 ≤ j ∧ j < 1348) → f' j = f j) ∨ cx_w u' f') (q : (u' 21 = u 21 ∧ u' 22 = u 22 ∧ u' 23 = u 23 ∧ u' 24 = u 24 ∧ ∀ j, j = 6 ∨ (1360 ≤ j ∧ j < 1408) ∨ (1420 ≤ j ∧ j < 1424) → f' j = f j) ∨ cx_q u' f') : cj_X A R u' f' := by
  have c0 := rm_c0 hf
  obtain ⟨a1, a2, a3, a4, a5, a6, a7⟩ := h
  refine ⟨?_, ?_, ?_, ?_, ?_, ?_, ?_⟩
  · rcases a with ⟨x, y, z⟩ | x
    · exact cx_g_fr hC a1 (fun _ _ _ => by rw [x]) (fun _ _ _ => by rw [y]) z
    · exact x
  · rcases b with ⟨x, z⟩ | x
    · exact cx_t_fr a2 (fun _ _ _ => by rw [x]) z
    · exact x
  · rcases c with ⟨x, z⟩ | x
    · exact cx_p_fr hC a3 hf (fun _ _ _ => by rw [x]) z
    · exact x
  · rcases k with ⟨x, y, z⟩ | x
    · exact cx_k_fr a4 (by omega) x (fun _ _ _ => by rw [y]) z
    · exact x
  · rcases l with ⟨x, y, z⟩ | x
    · exact cx_l_fr a5 (by omega) (fun _ _ _ => by rw [x]) (fun _ _ _ => by rw [y]) z
    · exact x
  · rcases m with ⟨x, y, y2, z⟩ | x
    · exact cx_w_fr a6 (by omega) x y (fun _ _ _ => by rw [y2]) z
    · exact x
  · rcases q with ⟨x, y, y2, y3, z⟩ | x
    · exact cx_q_fr a7 (by omega) (fun _ _ _ => by rw [x]) (fun _ _ _ => by rw [y]) (fun _ _ _ => by rw [y2]) (fun _ _ _ => by rw [y3]) z
    · exact x
/-- all rows of values are as they were, and so is the reference's row -/
theorem cj_Xk {A R : Nat} {g : ch_G} (hC : ck_Cx g A R) {u u' : ck_W} {f f' : Int → Int} (h : cj_X A R u f) (hf : rm_A A R f) (e : ∀ k, (4 ≤ k ∧ k ≤ 9) ∨ (15 ≤ k ∧ k ≤ 24) → u' k = u k) (ef : ∀ j, (1 ≤ j ∧ j < 1250) ∨ (1270 ≤ j ∧ j < 1430) → f' j = f j) : cj_X A R u' f' :=
  cj_Xm hC h hf (.inl ⟨e 4 (by omega), e 5 (by omega), fun j _ _ => ef j (by omega)⟩) (.inl ⟨e 6 (by omega), fun j _ _ => ef j (by omega)⟩) (.inl ⟨e 7 (by omega), fun j _ => ef j (by omega)⟩) (.inl ⟨by rw [e 8 (by omega)], e 9 (by omega), fun j _ => ef j (by omega)⟩) (.inl ⟨e 16 (by omega), e 17 (by omega), fun j _ => ef j (by omega)⟩) (.inl ⟨by rw [e 15 (by omega)], by rw [e 15 (by omega)], e 19 (by omega), fun j _ => ef j (by omega)⟩) (.inl ⟨e 21 (by omega), e 22 (by omega), e 23 (by omega), e 24 (by omega), fun j _ => ef j (by omega)⟩)
theorem cx_g_ij {A R : Nat} {g : ch_G} (hC : ck_Cx g A R) {z a r z' a' r' : Int} (h : cs_ok A R z a r) (h' : cs_ok A R z' a' r') (e : cs_at A R z a r = cs_at A R z' a' r') : z = z' ∧ a = a' ∧ r = r' := by
  have c := cs_ar hC
  obtain ⟨h1, h2, h3⟩ := h
  obtain ⟨g1, g2, g3⟩ := h'
  unfold cs_at at e
  have m1 : ((z * (A : Int) + a) * (R : Int) + r) % (R : Int) = r := by
    rw [Int.add_comm, Int.add_mul_emod_self_right, Int.emod_eq_of_lt h3.1 h3.2]
  have m2 : ((z' * (A : Int) + a') * (R : Int) + r') % (R : Int) = r' := by
    rw [Int.add_comm, Int.add_mul_emod_self_right, Int.emod_eq_of_lt g3.1 g3.2]
  have er : r = r' := by rw [← m1, ← m2, e]
  rw [er] at e
  have e2 : (z * (A : Int) + a) * (R : Int) = (z' * (A : Int) + a') * (R : Int) := by omega
  have e3 : z * (A : Int) + a = z' * (A : Int) + a' := Int.eq_of_mul_eq_mul_right (by omega) e2
  have n1 : (z * (A : Int) + a) % (A : Int) = a := by
    rw [Int.add_comm, Int.add_mul_emod_self_right, Int.emod_eq_of_lt h2.1 h2.2]
  have n2 : (z' * (A : Int) + a') % (A : Int) = a' := by
    rw [Int.add_comm, Int.add_mul_emod_self_right, Int.emod_eq_of_lt g2.1 g2.2]
  have ea : a = a' := by rw [← n1, ← n2, e3]
  rw [ea] at e3
  have e4 : z * (A : Int) = z' * (A : Int) := by omega
  exact ⟨Int.eq_of_mul_eq_mul_right (by omega) e4, ea, er⟩
theorem cj_IVs {A R : Nat} {g : ch_G} (hC : ck_Cx g A R) {w w1 : ck_W} (hI : cw_IV A R w) {a1 : Int} (fr : ∀ k, 51 ≤ k → k ≤ 63 → k ≠ 59 → w1 k = w k) (e59 : w1 59 = rm_u (w 59) a1 0) (hD : cs_D A R w1) (hT : cs_T w1) (hY : cs_Y A R w1) (e6 : ∀ z, z ≠ a1 → w1 6 z = w 6 z) (e7 : ∀ z p, 0 ≤ z → z ≤ 5 → z ≠ a1 → 0 ≤ p → p < 24 → w1 7 (z * 24 + p) = w 7 (z * 24 + p)) (e4 : ∀ z a r, z ≠ a1 → cs_ok A R z a r → w1 4 (cs_at A R z a r) = w 4 (cs_at A R z a r)) : cw_IV A R w1 := by
  refine cw_IV_set hC hI fr hD hT hY (fun z z0 z1 zn => ?_)
  by_cases e : z = a1
  · rw [e59, e, rm_u_eq] at zn; exact absurd rfl zn
  · rw [e59, rm_u_ne e] at zn
    exact ⟨zn, e6 z e, fun p p0 p1 => e7 z p z0 z1 e p0 p1, fun a r a0 a1 r0 r1 => e4 z a r e ⟨⟨z0, z1⟩, ⟨a0, a1⟩, r0, r1⟩⟩

theorem J_best {g : ch_G} {A R : Nat} (hC : ck_Cx g A R) {w : ck_W} {P : Int → Int → ck_W → Prop} (hJ : cj_J A R w) {a1 a2 : Int} (h2 : ck_i a2) (H : ∀ v v2 w2, cj_J A R w2 → P v v2 w2) : ck_CI (ch_C g A R) 11 mX11_best [.inr (.inr 0), .inl a1, .inl a2] w (fun v w1 => ck_CI (ch_C g A R) 11 mX12_best [.inr (.inr 76), .inl a1, .inl a2] w1 (fun v2 w2 => P v v2 w2)) := by
  have go : ∀ v w1, cs_Q w w1 → cw_IV A R w1 → ∃ v0, (some (.inl v) : Option ck_V) = some (.inl v0) ∧ (ck_i v0 → ck_CI (ch_C g A R) 11 mX12_best [.inr (.inr 76), .inl a1, .inl a2] w1 (fun v2 w2 => P v0 v2 w2)) := fun v w1 q i => ⟨v, rfl, fun _ => M_best (d := 5) hC (cj_I1 hJ q) (fun v2 w2 h => ⟨v2, rfl, fun _ => H v v2 w2 (cj_quiet hC hJ q i h)⟩)⟩
  obtain ⟨hI, hN, hK, hZ⟩ := hJ.1
  obtain ⟨n1, ⟨n2, n3, n4⟩, n5, ⟨n6, n7⟩, n8, n9⟩ := hN
  exact C_best (d := 5) hC hI (fun _ w1 q i _ _ _ => go _ w1 (cs_Q_q q) i) (fun w1 q i _ _ => go _ w1 (cs_Q_q q) i) h2
theorem J_flat {g : ch_G} {A R : Nat} (hC : ck_Cx g A R) {w : ck_W} {P : Int → Int → ck_W → Prop} (hJ : cj_J A R w) {a1 a2 a3 : Int} (H : ∀ v v2 w2, cj_J A R w2 → P v v2 w2) : ck_CI (ch_C g A R) 11 mX11_flat [.inr (.inr 0), .inl a1, .inl a2, .inl a3] w (fun v w1 => ck_CI (ch_C g A R) 11 mX12_flat [.inr (.inr 76), .inl a1, .inl a2, .inl a3] w1 (fun v2 w2 => P v v2 w2)) := by
  have go : ∀ v w1, cs_Q w w1 → cw_IV A R w1 → ∃ v0, (some (.inl v) : Option ck_V) = some (.inl v0) ∧ (ck_i v0 → ck_CI (ch_C g A R) 11 mX12_flat [.inr (.inr 76), .inl a1, .inl a2, .inl a3] w1 (fun v2 w2 => P v0 v2 w2)) := fun v w1 q i => ⟨v, rfl, fun _ => M_flat (d := 4) hC (cj_I1 hJ q) (fun v2 w2 h => ⟨v2, rfl, fun _ => H v v2 w2 (cj_quiet hC hJ q i h)⟩)⟩
  obtain ⟨hI, hN, hK, hZ⟩ := hJ.1
  obtain ⟨n1, ⟨n2, n3, n4⟩, n5, ⟨n6, n7⟩, n8, n9⟩ := hN
  exact C_flat (d := 4) hC hI (fun _ w1 q i _ _ => go _ w1 (cs_Q_q q) i) (fun w1 q i _ _ => go _ w1 (cs_Q_q q) i)
theorem J_walked {g : ch_G} {A R : Nat} (hC : ck_Cx g A R) {w : ck_W} {P : Int → Int → ck_W → Prop} (hJ : cj_J A R w) {a1 a2 a3 : Int} (H : ∀ v v2 w2, cj_J A R w2 → P v v2 w2) : ck_CI (ch_C g A R) 11 mX11_walked [.inr (.inr 0), .inl a1, .inl a2, .inl a3] w (fun v w1 => ck_CI (ch_C g A R) 11 mX12_walked [.inr (.inr 76), .inl a1, .inl a2, .inl a3] w1 (fun v2 w2 => P v v2 w2)) := by
  have go : ∀ v w1, cs_Q w w1 → cw_IV A R w1 → ∃ v0, (some (.inl v) : Option ck_V) = some (.inl v0) ∧ (ck_i v0 → ck_CI (ch_C g A R) 11 mX12_walked [.inr (.inr 76), .inl a1, .inl a2, .inl a3] w1 (fun v2 w2 => P v0 v2 w2)) := fun v w1 q i => ⟨v, rfl, fun _ => M_walked (d := 5) hC (cj_I1 hJ q) (fun v2 w2 h => ⟨v2, rfl, fun _ => H v v2 w2 (cj_quiet hC hJ q i h)⟩)⟩
  obtain ⟨hI, hN, hK, hZ⟩ := hJ.1
  obtain ⟨n1, ⟨n2, n3, n4⟩, n5, ⟨n6, n7⟩, n8, n9⟩ := hN
  exact C_walked (d := 5) hC hI n5 (fun _ _ _ w1 w2 q i _ _ _ e => go _ w2 (fun k hk => (e k (by omega) (by omega)).trans (q k (by omega))) (cw_IV_fr hC i (fun k hk => e k (by omega) (by omega)))) (fun w1 q i _ _ => go _ w1 (cs_Q_q q) i)
theorem J_ink {g : ch_G} {A R : Nat} (hC : ck_Cx g A R) {w : ck_W} {P : Int → Int → ck_W → Prop} (hJ : cj_J A R w) {a1 a2 a3 : Int} (H : ∀ v v2 w2, cj_J A R w2 → P v v2 w2) : ck_CI (ch_C g A R) 11 mX11_ink [.inr (.inr 0), .inl a1, .inl a2, .inl a3] w (fun v w1 => ck_CI (ch_C g A R) 11 mX12_ink [.inr (.inr 76), .inl a1, .inl a2, .inl a3] w1 (fun v2 w2 => P v v2 w2)) := by
  have go : ∀ v w1, cs_Q w w1 → cw_IV A R w1 → ∃ v0, (some (.inl v) : Option ck_V) = some (.inl v0) ∧ (ck_i v0 → ck_CI (ch_C g A R) 11 mX12_ink [.inr (.inr 76), .inl a1, .inl a2, .inl a3] w1 (fun v2 w2 => P v0 v2 w2)) := fun v w1 q i => ⟨v, rfl, fun _ => M_ink (d := 5) hC (cj_I1 hJ q) (fun v2 w2 h => ⟨v2, rfl, fun _ => H v v2 w2 (cj_quiet hC hJ q i h)⟩)⟩
  obtain ⟨hI, hN, hK, hZ⟩ := hJ.1
  obtain ⟨n1, ⟨n2, n3, n4⟩, n5, ⟨n6, n7⟩, n8, n9⟩ := hN
  exact C_ink (d := 5) hC hI n4 n6 (fun _ _ _ w2 _ _ _ _ q i => go _ w2 q i) (fun w2 q i _ => go _ w2 q i)
theorem J_right {g : ch_G} {A R : Nat} (hC : ck_Cx g A R) {w : ck_W} {P : Int → Int → ck_W → Prop} (hJ : cj_J A R w) {a1 a2 a3 : Int} (H : ∀ v v2 w2, cj_J A R w2 → P v v2 w2) : ck_CI (ch_C g A R) 11 mX11_right [.inr (.inr 0), .inl a1, .inl a2, .inl a3] w (fun v w1 => ck_CI (ch_C g A R) 11 mX12_right [.inr (.inr 76), .inl a1, .inl a2, .inl a3] w1 (fun v2 w2 => P v v2 w2)) := by
  have go : ∀ v w1, cs_Q w w1 → cw_IV A R w1 → ∃ v0, (some (.inl v) : Option ck_V) = some (.inl v0) ∧ (ck_i v0 → ck_CI (ch_C g A R) 11 mX12_right [.inr (.inr 76), .inl a1, .inl a2, .inl a3] w1 (fun v2 w2 => P v0 v2 w2)) := fun v w1 q i => ⟨v, rfl, fun _ => M_right (d := 4) hC (cj_I1 hJ q) (fun v2 w2 h => ⟨v2, rfl, fun _ => H v v2 w2 (cj_quiet hC hJ q i h)⟩)⟩
  obtain ⟨hI, hN, hK, hZ⟩ := hJ.1
  obtain ⟨n1, ⟨n2, n3, n4⟩, n5, ⟨n6, n7⟩, n8, n9⟩ := hN
  exact C_right (d := 5) hC hI n4 n6 n7 (fun v w2 q i => go v w2 q i)
theorem J_box {g : ch_G} {A R : Nat} (hC : ck_Cx g A R) {w : ck_W} {P : Int → Int → ck_W → Prop} (hJ : cj_J A R w) {a1 a2 a3 a4 : Int} (h3 : ck_i a3) (h4 : ck_i a4) (H : ∀ v v2 w2, cj_J A R w2 → P v v2 w2) : ck_CI (ch_C g A R) 11 mX11_box [.inr (.inr 0), .inl a1, .inl a2, .inl a3, .inl a4] w (fun v w1 => ck_CI (ch_C g A R) 11 mX12_box [.inr (.inr 76), .inl a1, .inl a2, .inl a3, .inl a4] w1 (fun v2 w2 => P v v2 w2)) := by
  have go : ∀ v w1, cs_Q w w1 → cw_IV A R w1 → ∃ v0, (some (.inl v) : Option ck_V) = some (.inl v0) ∧ (ck_i v0 → ck_CI (ch_C g A R) 11 mX12_box [.inr (.inr 76), .inl a1, .inl a2, .inl a3, .inl a4] w1 (fun v2 w2 => P v0 v2 w2)) := fun v w1 q i => ⟨v, rfl, fun _ => M_box (d := 4) hC (cj_I1 hJ q) (fun v2 w2 h => ⟨v2, rfl, fun _ => H v v2 w2 (cj_quiet hC hJ q i h)⟩)⟩
  obtain ⟨hI, hN, hK, hZ⟩ := hJ.1
  obtain ⟨n1, ⟨n2, n3, n4⟩, n5, ⟨n6, n7⟩, n8, n9⟩ := hN
  exact C_box (d := 4) hC hI n4 n6 n8 h3 h4 (fun _ _ _ _ w2 _ _ _ _ q i _ => go _ w2 q i) (fun w2 _ q i _ _ _ _ => go _ w2 q i)
theorem J_joined {g : ch_G} {A R : Nat} (hC : ck_Cx g A R) {w : ck_W} {P : Int → Int → ck_W → Prop} (hJ : cj_J A R w) {a1 a2 a3 a4 : Int} (h4 : ck_i a4) (H : ∀ v v2 w2, cj_J A R w2 → P v v2 w2) : ck_CI (ch_C g A R) 11 mX11_joined [.inr (.inr 0), .inl a1, .inl a2, .inl a3, .inl a4] w (fun v w1 => ck_CI (ch_C g A R) 11 mX12_joined [.inr (.inr 76), .inl a1, .inl a2, .inl a3, .inl a4] w1 (fun v2 w2 => P v v2 w2)) := by
  have go : ∀ v w1, cs_Q w w1 → cw_IV A R w1 → ∃ v0, (some (.inl v) : Option ck_V) = some (.inl v0) ∧ (ck_i v0 → ck_CI (ch_C g A R) 11 mX12_joined [.inr (.inr 76), .inl a1, .inl a2, .inl a3, .inl a4] w1 (fun v2 w2 => P v0 v2 w2)) := fun v w1 q i => ⟨v, rfl, fun _ => M_joined (d := 4) hC (cj_I1 hJ q) (fun v2 w2 h => ⟨v2, rfl, fun _ => H v v2 w2 (cj_quiet hC hJ q i h)⟩)⟩
  obtain ⟨hI, hN, hK, hZ⟩ := hJ.1
  obtain ⟨n1, ⟨n2, n3, n4⟩, n5, ⟨n6, n7⟩, n8, n9⟩ := hN
  exact C_joined (d := 4) hC hI n4 n6 n8 h4 (fun _ w2 _ _ _ _ q i => go _ w2 q i)
theorem J_printed {g : ch_G} {A R : Nat} (hC : ck_Cx g A R) {w : ck_W} {P : Int → Int → ck_W → Prop} (hJ : cj_J A R w) {a1 a2 a3 a4 a5 : Int} (H : ∀ v v2 w2, cj_J A R w2 → P v v2 w2) : ck_CI (ch_C g A R) 11 mX11_printed [.inr (.inr 0), .inl a1, .inl a2, .inl a3, .inl a4, .inl a5] w (fun v w1 => ck_CI (ch_C g A R) 11 mX12_printed [.inr (.inr 76), .inl a1, .inl a2, .inl a3, .inl a4, .inl a5] w1 (fun v2 w2 => P v v2 w2)) := by
  have go : ∀ v w1, cs_Q w w1 → cw_IV A R w1 → ∃ v0, (some (.inl v) : Option ck_V) = some (.inl v0) ∧ (ck_i v0 → ck_CI (ch_C g A R) 11 mX12_printed [.inr (.inr 76), .inl a1, .inl a2, .inl a3, .inl a4, .inl a5] w1 (fun v2 w2 => P v0 v2 w2)) := fun v w1 q i => ⟨v, rfl, fun _ => M_printed (d := 4) hC (cj_I1 hJ q) (fun v2 w2 h => ⟨v2, rfl, fun _ => H v v2 w2 (cj_quiet hC hJ q i h)⟩)⟩
  obtain ⟨hI, hN, hK, hZ⟩ := hJ.1
  obtain ⟨n1, ⟨n2, n3, n4⟩, n5, ⟨n6, n7⟩, n8, n9⟩ := hN
  exact C_printed (d := 4) hC hI n4 n6 n8 (fun _ _ w2 _ _ _ _ _ q i => go _ w2 q i) (fun _ => go _ w cs_Q_rf hI)
theorem J_seen {g : ch_G} {A R : Nat} (hC : ck_Cx g A R) {w : ck_W} {P : Int → Int → ck_W → Prop} (hJ : cj_J A R w) {a1 a2 : Int} (H : ∀ v w2, cj_J A R w2 → P v v w2) : ck_CI (ch_C g A R) 11 mX11_seen [.inr (.inr 0), .inl a1, .inl a2] w (fun v w1 => ck_CI (ch_C g A R) 11 mX12_seen [.inr (.inr 76), .inl a1, .inl a2] w1 (fun v2 w2 => P v v2 w2)) := by
  obtain ⟨hI, hN, hK, hZ⟩ := hJ.1
  obtain ⟨n1, ⟨n2, n3, n4⟩, n5, ⟨n6, n7⟩, n8, n9⟩ := hN
  have cp := hJ.2.2.1
  have e : cs_sm (cs_st w a1 a2) 512 = cs_sm (rs_st (w 77) a1 a2) 512 := cs_sm_eq (fun s => rs_st_eq cp.2.2.2.2.1 (fun k k0 k1 => (cp.2.2.2.2.2.2.2.2.2.2.1 k k0 k1).1) a1 a2 s) 512
  refine C_seen (d := 9) hC n8.1 (fun ok => ⟨_, rfl, fun _ => M2_seen (d := 10) hC hJ.2.1 (fun _ => ⟨_, rfl, fun _ => ?_⟩) (fun no => absurd ok no)⟩) (fun no => ⟨_, rfl, fun _ => M2_seen (d := 10) hC hJ.2.1 (fun ok => absurd ok no) (fun _ => ⟨_, rfl, fun _ => H _ w hJ⟩)⟩)
  rw [e]
  exact H _ w hJ
theorem J_plan {g : ch_G} {A R : Nat} (hC : ck_Cx g A R) {w : ck_W} {P : Int → Int → ck_W → Prop} (hJ : cj_J A R w) {a1 a2 : Int} (H : ∀ v v2 w2, cj_J A R w2 → P v v2 w2) : ck_CI (ch_C g A R) 11 mX11_plan [.inr (.inr 0), .inl a1, .inl a2] w (fun v w1 => ck_CI (ch_C g A R) 11 mX12_plan [.inr (.inr 76), .inl a1, .inl a2] w1 (fun v2 w2 => P v v2 w2)) := by
  have go : ∀ v w1, cs_Q w w1 → cw_IV A R w1 → ∃ v0, (some (.inl v) : Option ck_V) = some (.inl v0) ∧ (ck_i v0 → ck_CI (ch_C g A R) 11 mX12_plan [.inr (.inr 76), .inl a1, .inl a2] w1 (fun v2 w2 => P v0 v2 w2)) := fun v w1 q i => ⟨v, rfl, fun _ => M_plan (d := 10) hC (cj_I1 hJ q) (fun v2 => ⟨v2, rfl, fun _ => H v v2 w1 (cj_quiet hC hJ q i rm_q_rf)⟩)⟩
  obtain ⟨hI, hN, hK, hZ⟩ := hJ.1
  obtain ⟨n1, ⟨n2, n3, n4⟩, n5, ⟨n6, n7⟩, n8, n9⟩ := hN
  exact C_plan (d := 8) hC n9 (fun v w1 e => go v w1 (fun k hk => e k (by omega) (by omega)) (cw_IV_fr hC hI (fun k hk => e k (by omega) (by omega))))
theorem J_about {g : ch_G} {A R : Nat} (hC : ck_Cx g A R) {w : ck_W} {P : Int → Int → ck_W → Prop} (hJ : cj_J A R w) {a1 : Int} (h1 : ck_i a1) (H : ∀ v w2, cj_J A R w2 → P v v w2) : ck_CI (ch_C g A R) 11 mX11_about [.inr (.inr 0), .inl a1] w (fun v w1 => ck_CI (ch_C g A R) 11 mX12_about [.inr (.inr 76), .inl a1] w1 (fun v2 w2 => P v v2 w2)) := by
  obtain ⟨hI, hN, hK, hZ⟩ := hJ.1
  obtain ⟨n1, ⟨n2, n3, n4⟩, n5, ⟨n6, n7⟩, n8, n9⟩ := hN
  have cp := hJ.2.2.1
  have c0 := rm_c0 hJ.2.1.2.2.2.1
  obtain ⟨et, er, ek⟩ := hJ.2.2.2.2
  refine C_about (d := 9) hC h1 n6.1 ⟨_, rfl, fun _ => M2_about (d := 10) hC hJ.2.1 ⟨_, rfl, fun _ => ?_⟩⟩
  have E : (if 10 ≤ a1 ∧ a1 ≤ 15 then w 6 (a1 - 10) else if 0 ≤ a1 - 20 ∧ a1 - 20 < w 10 3 then w 13 (a1 - 20) else if a1 = 0 then w 3 0 else if a1 = 1 then w 3 1 else if a1 = 2 then w 10 3 else if a1 = 3 then w 3 6 else if a1 = 4 then w 8 1 else if a1 = 5 then w 10 5 else if a1 = 6 then w 15 2 else if a1 = 7 then w 15 5 else if a1 = 8 then w 20 3 else if a1 = 9 then w 67 1 else -1) = rs_ab w a1 := by
    unfold rs_ab
    by_cases q : 10 ≤ a1 ∧ a1 ≤ 15
    · rw [if_pos q, if_pos q, cp.2.2.2.2.2.2.2.1 (a1 - 10) (by omega) (by omega)]
      rw [show 10 + (a1 - 10) = 10 + a1 - 10 by omega]
    · rw [if_neg q, if_neg q]
      have e0 := er.1
      by_cases q2 : 20 ≤ a1 ∧ a1 ≤ 19 + w 77 0
      · rw [if_pos (by omega), if_pos q2, er.2 (a1 - 20) (by omega) (by omega)]
        rw [show 1260 + (a1 - 20) = 1260 + a1 - 20 by omega]
      · rw [if_neg (by omega), if_neg q2, e0, et.1, hI.1.1.1, hI.1.1.2, hJ.2.1.1, hJ.2.1.2.1, cp.1.1, cp.2.2.2.1, cp.2.1.1, cp.2.2.2.2.1, cp.2.2.1.1, cp.2.2.2.2.2.1]
  rw [E]
  exact H _ w hJ
theorem J_fault {g : ch_G} {A R : Nat} (hC : ck_Cx g A R) {w : ck_W} {P : Int → Int → ck_W → Prop} (hJ : cj_J A R w) {a1 : Int} (H : ∀ v w2, cj_J A R w2 → P v v w2) : ck_CI (ch_C g A R) 11 mX11_fault [.inr (.inr 0), .inl a1] w (fun v w1 => ck_CI (ch_C g A R) 11 mX12_fault [.inr (.inr 76), .inl a1] w1 (fun v2 w2 => P v v2 w2)) := by
  obtain ⟨et, er, ek⟩ := hJ.2.2.2.2
  refine C_fault (d := 11) hC ⟨_, rfl, fun _ => M2_fault (d := 11) hC ⟨_, rfl, fun _ => ?_⟩⟩
  rw [et.2.2.1, et.2.2.2]
  exact H _ w hJ
theorem J_length {g : ch_G} {A R : Nat} (hC : ck_Cx g A R) {w : ck_W} {P : Int → Int → ck_W → Prop} (hJ : cj_J A R w) {a1 a2 a3 a4 a5 : Int} (H : ∀ v w2, cj_J A R w2 → P v v w2) : ck_CI (ch_C g A R) 11 mX11_length [.inr (.inr 0), .inl a1, .inl a2, .inl a3, .inl a4, .inl a5] w (fun v w1 => ck_CI (ch_C g A R) 11 mX12_length [.inr (.inr 76), .inl a1, .inl a2, .inl a3, .inl a4, .inl a5] w1 (fun v2 w2 => P v v2 w2)) := by
  refine C_length (d := 10) hC (fun ok => ⟨_, rfl, fun _ => M_length (d := 10) hC (fun _ => ⟨_, rfl, fun _ => H _ w hJ⟩) (fun no => absurd ok no)⟩) (fun no => ⟨_, rfl, fun _ => M_length (d := 10) hC (fun ok => absurd ok no) (fun _ => ⟨_, rfl, fun _ => H _ w hJ⟩)⟩)
theorem J_grey {g : ch_G} {A R : Nat} (hC : ck_Cx g A R) {w : ck_W} {P : Int → Int → ck_W → Prop} (hJ : cj_J A R w) {a1 a2 a3 a4 a5 : Int} (H : ∀ v w2, cj_J A R w2 → P v v w2) : ck_CI (ch_C g A R) 11 mX11_grey [.inr (.inr 0), .inl a1, .inl a2, .inl a3, .inl a4, .inl a5] w (fun v w1 => ck_CI (ch_C g A R) 11 mX12_grey [.inr (.inr 76), .inl a1, .inl a2, .inl a3, .inl a4, .inl a5] w1 (fun v2 w2 => P v v2 w2)) := by
  have c := cs_ar hC
  obtain ⟨hI, hN, hK, hZ⟩ := id hJ.1
  obtain ⟨n1, ⟨n2, n3, n4⟩, n5, ⟨n6, n7⟩, n8, n9⟩ := id hN
  have cp := hJ.2.2.1
  have c0 := rm_c0 hJ.2.1.2.2.2.1
  have X0 := cp.2.2.2.2.2.2
  refine C_grey (d := 9) hC hI.1.1 (fun ok => ⟨_, rfl, fun _ => ?_⟩) (fun no => ⟨_, rfl, fun _ => ?_⟩)
  · refine M2_grey (d := 9) hC (rm_I_fr hJ.2.1 (fun k hk => by rw [ck_up_ne (by omega), ck_up_ne (by omega), ck_up_ne (by omega)])) (fun v2 w2 i2 fr2 p1 p0 f78 f76 => ⟨v2, rfl, fun _ => ?_⟩)
    have p := p1 ⟨ok.1.1, ok.1.2.1, ok.1.2.2, ok.2⟩
    have q : w2 77 = rm_u (rm_u (w 77) (20 + (72 * a1 + 12 * a2 + a3)) a4) (460 + (72 * a1 + 12 * a2 + a3)) a5 := p.2
    rw [p.1]
    have hY : cs_Y A R (ck_up (ck_up (ck_up w 4 (cs_at A R a1 a2 a3) a4) 5 (cs_at A R a1 a2 a3) a5) 59 a1 0) := fun j j0 j1 => by
      rw [ck_up_ne (by decide), ck_up_ne (by decide), ck_up_at]
      split
      · exact ok.2.1
      · exact n3 j j0 j1
    have hYc : cs_Yc A R (ck_up (ck_up (ck_up w 4 (cs_at A R a1 a2 a3) a4) 5 (cs_at A R a1 a2 a3) a5) 59 a1 0) := fun j j0 j1 => by
      rw [ck_up_ne (by decide), ck_up_at]
      split
      · exact ok.2.2
      · rw [ck_up_ne (by decide)]; exact n4 j j0 j1
    have J1 : cj_JC A R (ck_up (ck_up (ck_up w 4 (cs_at A R a1 a2 a3) a4) 5 (cs_at A R a1 a2 a3) a5) 59 a1 0) := cj_JCs hJ.1 (cj_IVs hC hI (a1 := a1) (fun k h1 h2 h3 => by rw [ck_up_ne (by omega), ck_up_ne (by omega), ck_up_ne (by omega)]) (by rw [ck_up_row]; rfl) hI.1.1 hI.1.2.1 hY (fun _ _ => rfl) (fun _ _ _ _ _ _ _ => rfl) (fun z a r zn zo => by rw [ck_up_ne (by decide), ck_up_ne (by decide), ck_up_nj (cs_at_ne zo ok.1 zn)])) (cj_Nm hN (.inl rfl) (.inl rfl) (.inr hY) (.inr hYc) (.inl ⟨rfl, rfl⟩) (.inl ⟨rfl, rfl, rfl⟩) (.inl ⟨rfl, rfl⟩) (.inl ⟨rfl, rfl, rfl, rfl, rfl⟩) (.inl ⟨rfl, rfl, rfl, rfl, rfl⟩)) (fun k hk => by rw [ck_up_ne (by omega), ck_up_ne (by omega), ck_up_ne (by omega)])
    have o1 := ok.1
    unfold cs_ok at o1
    have XG : cx_g A R (ck_up (ck_up (ck_up w 4 (cs_at A R a1 a2 a3) a4) 5 (cs_at A R a1 a2 a3) a5) 59 a1 0) (rm_u (rm_u (w 77) (20 + (72 * a1 + 12 * a2 + a3)) a4) (460 + (72 * a1 + 12 * a2 + a3)) a5) := by
      intro z a r zo
      have z1 := zo
      unfold cs_ok at z1
      rw [ck_up_ne (by decide), ck_up_ne (by decide), ck_up_at, ck_up_ne (by decide), ck_up_at, ck_up_ne (by decide)]
      by_cases e : z = a1 ∧ a = a2 ∧ r = a3
      · obtain ⟨rfl, rfl, rfl⟩ := e
        rw [if_pos rfl, if_pos rfl, rm_u_ne (by omega), rm_u_eq, rm_u_eq]
        exact ⟨rfl, rfl⟩
      · rw [if_neg (fun x => e (cx_g_ij hC zo ok.1 x)), if_neg (fun x => e (cx_g_ij hC zo ok.1 x)), rm_u_ne (by omega), rm_u_ne (by omega), rm_u_ne (by omega), rm_u_ne (by omega)]
        exact X0.1 z a r zo
    refine H _ w2 (cj_ends hC hJ (w1 := (ck_up (ck_up (ck_up w 4 (cs_at A R a1 a2 a3) a4) 5 (cs_at A R a1 a2 a3) a5) 59 a1 0)) J1 (fun k hk => by rw [ck_up_ne (by omega), ck_up_ne (by omega), ck_up_ne (by omega)]) ⟨rfl, rfl, rfl, rfl, rfl, rfl, rfl, rfl, rfl⟩ ⟨rfl, rfl⟩ i2 fr2 f78 f76 (fun j hj => by rw [q, rm_u_ne (by omega), rm_u_ne (by omega)]; rfl) ?_)
    rw [q]
    exact cj_Xm hC X0 hJ.2.1.2.2.2.1 (.inr XG) (.inl ⟨rfl, fun j _ _ => by rw [rm_u_ne (by omega), rm_u_ne (by omega)]⟩) (.inl ⟨rfl, fun j _ => by rw [rm_u_ne (by omega), rm_u_ne (by omega)]⟩) (.inl ⟨rfl, rfl, fun j _ => by rw [rm_u_ne (by omega), rm_u_ne (by omega)]⟩) (.inl ⟨rfl, rfl, fun j _ => by rw [rm_u_ne (by omega), rm_u_ne (by omega)]⟩) (.inl ⟨rfl, rfl, rfl, fun j _ => by rw [rm_u_ne (by omega), rm_u_ne (by omega)]⟩) (.inl ⟨rfl, rfl, rfl, rfl, fun j _ => by rw [rm_u_ne (by omega), rm_u_ne (by omega)]⟩)
  · refine M2_grey (d := 9) hC hJ.2.1 (fun v2 w2 i2 fr2 p1 p0 f78 f76 => ⟨v2, rfl, fun _ => ?_⟩)
    have p := p0 (fun x => no ⟨⟨x.1, x.2.1, x.2.2.1⟩, x.2.2.2⟩)
    rw [p.1]
    exact H 0 w2 (cj_ends hC hJ hJ.1 (fun _ _ => rfl) cj_Ce_rf ⟨rfl, rfl⟩ i2 fr2 f78 f76 (fun j _ => by rw [p.2]) (by rw [p.2]; exact X0))
theorem J_wound {g : ch_G} {A R : Nat} (hC : ck_Cx g A R) {w : ck_W} {P : Int → Int → ck_W → Prop} (hJ : cj_J A R w) {a1 a2 : Int} (H : ∀ v w2, cj_J A R w2 → P v v w2) : ck_CI (ch_C g A R) 11 mX11_wound [.inr (.inr 0), .inl a1, .inl a2] w (fun v w1 => ck_CI (ch_C g A R) 11 mX12_wound [.inr (.inr 76), .inl a1, .inl a2] w1 (fun v2 w2 => P v v2 w2)) := by
  have c := cs_ar hC
  obtain ⟨hI, hN, hK, hZ⟩ := id hJ.1
  obtain ⟨n1, ⟨n2, n3, n4⟩, n5, ⟨n6, n7⟩, n8, n9⟩ := id hN
  have cp := hJ.2.2.1
  have c0 := rm_c0 hJ.2.1.2.2.2.1
  have X0 := cp.2.2.2.2.2.2
  refine C_wound (d := 9) hC (fun ok => ⟨_, rfl, fun _ => ?_⟩) (fun no => ⟨_, rfl, fun _ => ?_⟩)
  · refine M2_wound (d := 9) hC (rm_I_fr hJ.2.1 (fun k hk => by rw [ck_up_ne (by omega), ck_up_ne (by omega)])) (fun v2 w2 i2 fr2 p1 p0 f78 f76 => ⟨v2, rfl, fun _ => ?_⟩)
    have p := p1 ok
    have q : w2 77 = rm_u (w 77) (10 + a1) a2 := p.2
    rw [p.1]
    have hT : cs_T (ck_up (ck_up w 6 a1 a2) 59 a1 0) := fun z z0 z1 => by
      rw [ck_up_ne (by decide), ck_up_at]
      split
      · exact ok.2
      · exact n2 z z0 z1
    have J1 : cj_JC A R (ck_up (ck_up w 6 a1 a2) 59 a1 0) := cj_JCs hJ.1 (cj_IVs hC hI (a1 := a1) (fun k h1 h2 h3 => by rw [ck_up_ne (by omega), ck_up_ne (by omega)]) (by rw [ck_up_row]; rfl) hI.1.1 hT n3 (fun z zn => by rw [ck_up_ne (by decide), ck_up_nj zn]) (fun _ _ _ _ _ _ _ => rfl) (fun _ _ _ _ _ => rfl)) (cj_Nm hN (.inl rfl) (.inr hT) (.inl rfl) (.inl rfl) (.inl ⟨rfl, rfl⟩) (.inl ⟨rfl, rfl, rfl⟩) (.inl ⟨rfl, rfl⟩) (.inl ⟨rfl, rfl, rfl, rfl, rfl⟩) (.inl ⟨rfl, rfl, rfl, rfl, rfl⟩)) (fun k hk => by rw [ck_up_ne (by omega), ck_up_ne (by omega)])
    have XT : cx_t (ck_up (ck_up w 6 a1 a2) 59 a1 0) (rm_u (w 77) (10 + a1) a2) := by
      intro z z0 z1
      rw [ck_up_ne (by decide), ck_up_at]
      by_cases e : z = a1
      · rw [if_pos e, e, rm_u_eq]
      · rw [if_neg e, rm_u_ne (by omega)]; exact X0.2.1 z z0 z1
    refine H _ w2 (cj_ends hC hJ (w1 := (ck_up (ck_up w 6 a1 a2) 59 a1 0)) J1 (fun k hk => by rw [ck_up_ne (by omega), ck_up_ne (by omega)]) ⟨rfl, rfl, rfl, rfl, rfl, rfl, rfl, rfl, rfl⟩ ⟨rfl, rfl⟩ i2 fr2 f78 f76 (fun j hj => by rw [q, rm_u_ne (by omega)]; rfl) ?_)
    rw [q]
    exact cj_Xm hC X0 hJ.2.1.2.2.2.1 (.inl ⟨rfl, rfl, fun j _ _ => by rw [rm_u_ne (by omega)]⟩) (.inr XT) (.inl ⟨rfl, fun j _ => by rw [rm_u_ne (by omega)]⟩) (.inl ⟨rfl, rfl, fun j _ => by rw [rm_u_ne (by omega)]⟩) (.inl ⟨rfl, rfl, fun j _ => by rw [rm_u_ne (by omega)]⟩) (.inl ⟨rfl, rfl, rfl, fun j _ => by rw [rm_u_ne (by omega)]⟩) (.inl ⟨rfl, rfl, rfl, rfl, fun j _ => by rw [rm_u_ne (by omega)]⟩)
  · refine M2_wound (d := 9) hC hJ.2.1 (fun v2 w2 i2 fr2 p1 p0 f78 f76 => ⟨v2, rfl, fun _ => ?_⟩)
    have p := p0 no
    rw [p.1]
    exact H 0 w2 (cj_ends hC hJ hJ.1 (fun _ _ => rfl) cj_Ce_rf ⟨rfl, rfl⟩ i2 fr2 f78 f76 (fun j _ => by rw [p.2]) (by rw [p.2]; exact X0))
theorem J_jump {g : ch_G} {A R : Nat} (hC : ck_Cx g A R) {w : ck_W} {P : Int → Int → ck_W → Prop} (hJ : cj_J A R w) {a1 : Int} (H : ∀ v w2, cj_J A R w2 → P v v w2) : ck_CI (ch_C g A R) 11 mX11_jump [.inr (.inr 0), .inl a1] w (fun v w1 => ck_CI (ch_C g A R) 11 mX12_jump [.inr (.inr 76), .inl a1] w1 (fun v2 w2 => P v v2 w2)) := by
  have c := cs_ar hC
  obtain ⟨hI, hN, hK, hZ⟩ := id hJ.1
  obtain ⟨n1, ⟨n2, n3, n4⟩, n5, ⟨n6, n7⟩, n8, n9⟩ := id hN
  have cp := hJ.2.2.1
  have c0 := rm_c0 hJ.2.1.2.2.2.1
  have X0 := cp.2.2.2.2.2.2
  refine C_jump (d := 10) hC (fun ok => ⟨_, rfl, fun _ => ?_⟩) (fun no => ⟨_, rfl, fun _ => ?_⟩)
  · refine M2_jump (d := 10) hC (rm_I_fr hJ.2.1 (fun k hk => by rw [ck_up_ne (by omega)])) (fun v2 w2 i2 fr2 p1 p0 f78 f76 => ⟨v2, rfl, fun _ => ?_⟩)
    have p := p1 ok
    have q : w2 77 = rm_u (w 77) 7 a1 := p.2
    rw [p.1]
    have J1 : cj_JC A R (ck_up w 8 2 a1) := cj_JCs hJ.1 (cw_IV_fr hC hI (fun k hk => by rw [ck_up_ne (by omega)])) (cj_Nm hN (.inl rfl) (.inl rfl) (.inl rfl) (.inl rfl) (.inr ⟨n5.1, ok, n5.2.2⟩) (.inl ⟨rfl, rfl, rfl⟩) (.inl ⟨rfl, rfl⟩) (.inl ⟨rfl, rfl, rfl, rfl, rfl⟩) (.inl ⟨rfl, rfl, rfl, rfl, rfl⟩)) (fun k hk => by rw [ck_up_ne (by omega)])
    have XK : cx_k (ck_up w 8 2 a1) (rm_u (w 77) 7 a1) := ⟨by rw [ck_up_eq, rm_u_eq], fun t t0 t1 => by
      rw [rm_u_ne (by omega)] at t1
      rw [ck_up_ne (by decide), rm_u_ne (by omega)]; exact X0.2.2.2.1.2 t t0 t1⟩
    refine H _ w2 (cj_ends hC hJ (w1 := (ck_up w 8 2 a1)) J1 (fun k hk => by rw [ck_up_ne (by omega)]) ⟨rfl, rfl, rfl, rfl, rfl, rfl, rfl, rfl, rfl⟩ ⟨rfl, rfl⟩ i2 fr2 f78 f76 (fun j hj => by rw [q, rm_u_ne (by omega)]; rfl) ?_)
    rw [q]
    exact cj_Xm hC X0 hJ.2.1.2.2.2.1 (.inl ⟨rfl, rfl, fun j _ _ => by rw [rm_u_ne (by omega)]⟩) (.inl ⟨rfl, fun j _ _ => by rw [rm_u_ne (by omega)]⟩) (.inl ⟨rfl, fun j _ => by rw [rm_u_ne (by omega)]⟩) (.inr XK) (.inl ⟨rfl, rfl, fun j _ => by rw [rm_u_ne (by omega)]⟩) (.inl ⟨rfl, rfl, rfl, fun j _ => by rw [rm_u_ne (by omega)]⟩) (.inl ⟨rfl, rfl, rfl, rfl, fun j _ => by rw [rm_u_ne (by omega)]⟩)
  · refine M2_jump (d := 10) hC hJ.2.1 (fun v2 w2 i2 fr2 p1 p0 f78 f76 => ⟨v2, rfl, fun _ => ?_⟩)
    have p := p0 no
    rw [p.1]
    exact H 0 w2 (cj_ends hC hJ hJ.1 (fun _ _ => rfl) cj_Ce_rf ⟨rfl, rfl⟩ i2 fr2 f78 f76 (fun j _ => by rw [p.2]) (by rw [p.2]; exact X0))
theorem J_chances {g : ch_G} {A R : Nat} (hC : ck_Cx g A R) {w : ck_W} {P : Int → Int → ck_W → Prop} (hJ : cj_J A R w) {a1 a2 : Int} (H : ∀ v w2, cj_J A R w2 → P v v w2) : ck_CI (ch_C g A R) 11 mX11_chances [.inr (.inr 0), .inl a1, .inl a2] w (fun v w1 => ck_CI (ch_C g A R) 11 mX12_chances [.inr (.inr 76), .inl a1, .inl a2] w1 (fun v2 w2 => P v v2 w2)) := by
  have c := cs_ar hC
  obtain ⟨hI, hN, hK, hZ⟩ := id hJ.1
  obtain ⟨n1, ⟨n2, n3, n4⟩, n5, ⟨n6, n7⟩, n8, n9⟩ := id hN
  have cp := hJ.2.2.1
  have c0 := rm_c0 hJ.2.1.2.2.2.1
  have X0 := cp.2.2.2.2.2.2
  refine C_chances (d := 10) hC (fun ok => ⟨_, rfl, fun _ => ?_⟩) (fun no => ⟨_, rfl, fun _ => ?_⟩)
  · refine M2_chances (d := 10) hC (rm_I_fr hJ.2.1 (fun k hk => by rw [ck_up_ne (by omega), ck_up_ne (by omega)])) (fun v2 w2 i2 fr2 p1 p0 f78 f76 => ⟨v2, rfl, fun _ => ?_⟩)
    have p := p1 ok
    have q : w2 77 = rm_u (rm_u (w 77) 8 a1) 9 a2 := p.2
    rw [p.1]
    have J1 : cj_JC A R (ck_up (ck_up w 15 6 a1) 15 7 a2) := cj_JCs hJ.1 (cw_IV_fr hC hI (fun k hk => by rw [ck_up_ne (by omega), ck_up_ne (by omega)])) (cj_Nm hN (.inl rfl) (.inl rfl) (.inl rfl) (.inl rfl) (.inl ⟨rfl, rfl⟩) (.inl ⟨rfl, rfl, rfl⟩) (.inl ⟨rfl, rfl⟩) (.inr ⟨n8.1, n8.2.1, ok, n8.2.2.2⟩) (.inl ⟨rfl, rfl, rfl, rfl, rfl⟩)) (fun k hk => by rw [ck_up_ne (by omega), ck_up_ne (by omega)])
    have XW : cx_w (ck_up (ck_up w 15 6 a1) 15 7 a2) (rm_u (rm_u (w 77) 8 a1) 9 a2) := ⟨⟨by rw [ck_up_nj (by decide), ck_up_eq, rm_u_ne (by decide), rm_u_eq], by rw [ck_up_eq, rm_u_eq]⟩, fun k k0 k1 => by
      rw [rm_u_ne (by omega), rm_u_ne (by omega)] at k1
      rw [ck_up_ne (by decide), ck_up_ne (by decide), rm_u_ne (by omega), rm_u_ne (by omega)]; exact X0.2.2.2.2.2.1.2 k k0 k1⟩
    refine H _ w2 (cj_ends hC hJ (w1 := (ck_up (ck_up w 15 6 a1) 15 7 a2)) J1 (fun k hk => by rw [ck_up_ne (by omega), ck_up_ne (by omega)]) ⟨rfl, rfl, rfl, rfl, rfl, rfl, rfl, rfl, rfl⟩ ⟨rfl, rfl⟩ i2 fr2 f78 f76 (fun j hj => by rw [q, rm_u_ne (by omega), rm_u_ne (by omega)]; rfl) ?_)
    rw [q]
    exact cj_Xm hC X0 hJ.2.1.2.2.2.1 (.inl ⟨rfl, rfl, fun j _ _ => by rw [rm_u_ne (by omega), rm_u_ne (by omega)]⟩) (.inl ⟨rfl, fun j _ _ => by rw [rm_u_ne (by omega), rm_u_ne (by omega)]⟩) (.inl ⟨rfl, fun j _ => by rw [rm_u_ne (by omega), rm_u_ne (by omega)]⟩) (.inl ⟨rfl, rfl, fun j _ => by rw [rm_u_ne (by omega), rm_u_ne (by omega)]⟩) (.inl ⟨rfl, rfl, fun j _ => by rw [rm_u_ne (by omega), rm_u_ne (by omega)]⟩) (.inr XW) (.inl ⟨rfl, rfl, rfl, rfl, fun j _ => by rw [rm_u_ne (by omega), rm_u_ne (by omega)]⟩)
  · refine M2_chances (d := 10) hC hJ.2.1 (fun v2 w2 i2 fr2 p1 p0 f78 f76 => ⟨v2, rfl, fun _ => ?_⟩)
    have p := p0 no
    rw [p.1]
    exact H 0 w2 (cj_ends hC hJ hJ.1 (fun _ _ => rfl) cj_Ce_rf ⟨rfl, rfl⟩ i2 fr2 f78 f76 (fun j _ => by rw [p.2]) (by rw [p.2]; exact X0))
theorem J_column {g : ch_G} {A R : Nat} (hC : ck_Cx g A R) {w : ck_W} {P : Int → Int → ck_W → Prop} (hJ : cj_J A R w) {a1 a2 a3 : Int} (H : ∀ v w2, cj_J A R w2 → P v v w2) : ck_CI (ch_C g A R) 11 mX11_column [.inr (.inr 0), .inl a1, .inl a2, .inr (.inl a3)] w (fun v w1 => ck_CI (ch_C g A R) 11 mX12_column [.inr (.inr 76), .inl a1, .inl a2, .inr (.inl a3)] w1 (fun v2 w2 => P v v2 w2)) := by
  have c := cs_ar hC
  obtain ⟨hI, hN, hK, hZ⟩ := id hJ.1
  obtain ⟨n1, ⟨n2, n3, n4⟩, n5, ⟨n6, n7⟩, n8, n9⟩ := id hN
  have cp := hJ.2.2.1
  have c0 := rm_c0 hJ.2.1.2.2.2.1
  have X0 := cp.2.2.2.2.2.2
  refine C_column (d := 9) hC hI.1.1 (fun ok ok3 w1 e e59 s1 s2 => ⟨_, rfl, fun _ => ?_⟩) (fun no => ⟨_, rfl, fun _ => ?_⟩)
  · have hY : cs_Y A R w1 := fun j j0 j1 => by
      by_cases q : j < cs_at A R a1 a2 0 ∨ cs_at A R a1 a2 0 + (R : Int) ≤ j
      · rw [s2 j q]; exact n3 j j0 j1
      · have s := s1 (j - cs_at A R a1 a2 0) (by omega) (by omega)
        rw [show cs_at A R a1 a2 0 + (j - cs_at A R a1 a2 0) = j by omega] at s
        rw [s]; exact ck_dgb _ _
    have N : cj_N A R w1 := cj_Nm hN (.inl (by rw [e 3 (by decide) (by decide)])) (.inl (e 6 (by decide) (by decide))) (.inr hY) (.inl (e 5 (by decide) (by decide))) (.inl ⟨e 8 (by decide) (by decide), e 9 (by decide) (by decide)⟩) (.inl ⟨by rw [e 10 (by decide) (by decide)], e 11 (by decide) (by decide), e 12 (by decide) (by decide)⟩) (.inl ⟨by rw [e 10 (by decide) (by decide)], e 14 (by decide) (by decide)⟩) (.inl ⟨e 15 (by decide) (by decide), e 16 (by decide) (by decide), e 17 (by decide) (by decide), e 18 (by decide) (by decide), e 19 (by decide) (by decide)⟩) (.inl ⟨e 20 (by decide) (by decide), e 21 (by decide) (by decide), e 22 (by decide) (by decide), e 23 (by decide) (by decide), e 24 (by decide) (by decide)⟩)
    have split4 : ∀ z a r, cs_ok A R z a r → ¬ (z = a1 ∧ a = a2) → cs_at A R z a r < cs_at A R a1 a2 0 ∨ cs_at A R a1 a2 0 + (R : Int) ≤ cs_at A R z a r := by
      intro z a r zo zn
      by_cases q : cs_at A R z a r < cs_at A R a1 a2 0 ∨ cs_at A R a1 a2 0 + (R : Int) ≤ cs_at A R z a r
      · exact q
      · have y : cs_at A R a1 a2 (cs_at A R z a r - cs_at A R a1 a2 0) = cs_at A R z a r := by
          generalize cs_at A R z a r = t at *
          unfold cs_at at *
          omega
        have x := cx_g_ij hC zo (z' := a1) (a' := a2) (r' := cs_at A R z a r - cs_at A R a1 a2 0) ⟨ok.1, ok.2.1, by omega, by omega⟩ y.symm
        exact absurd ⟨x.1, x.2.1⟩ zn
    have J1 : cj_JC A R w1 := cj_JCs hJ.1 (cj_IVs hC hI (a1 := a1) (fun k h1 h2 h3 => e k (by omega) h3) e59 (cs_hD hI.1.1 (e 3 (by decide) (by decide))) (cs_hT n2 (e 6 (by decide) (by decide))) hY (fun _ _ => by rw [e 6 (by decide) (by decide)]) (fun _ _ _ _ _ _ _ => by rw [e 7 (by decide) (by decide)]) (fun z a r zn zo => s2 _ (split4 z a r zo (fun x => zn x.1)))) N (fun k hk => e k (by omega) (by omega))
    refine M2_column (d := 9) hC (rm_I_fr hJ.2.1 (fun k hk => e k (by omega) (by omega))) (fun v2 w2 i2 fr2 p1 p0 f78 f76 => ⟨v2, rfl, fun _ => ?_⟩)
    have e77 := e 77 (by decide) (by decide)
    have o1 := ok
    unfold cs_ok at o1
    have p := p1 ⟨ok.1, ok.2.1, ok3⟩
    have un : ∀ j, j < 20 + (72 * a1 + 12 * a2) ∨ 20 + (72 * a1 + 12 * a2) + (R : Int) ≤ j → w2 77 j = w 77 j := fun j hj => by rw [p.2.2 j hj, e77]
    rw [p.1]
    refine H _ w2 (cj_ends hC hJ (w1 := w1) J1 (fun k hk => e k (by omega) (by omega)) ⟨by rw [e 3 (by decide) (by decide)], e 7 (by decide) (by decide), by rw [e 8 (by decide) (by decide)], by rw [e 10 (by decide) (by decide)], e 14 (by decide) (by decide), by rw [e 15 (by decide) (by decide)], by rw [e 15 (by decide) (by decide)], e 18 (by decide) (by decide), by rw [e 20 (by decide) (by decide)]⟩ ⟨by rw [e 10 (by decide) (by decide)], e 13 (by decide) (by decide)⟩ i2 fr2 f78 f76 (fun j hj => by rw [un j (by omega), e77]) ?_)
    have XG : cx_g A R w1 (w2 77) := by
      intro z a r zo
      have z1 := zo
      unfold cs_ok at z1
      by_cases q : z = a1 ∧ a = a2
      · obtain ⟨rfl, rfl⟩ := q
        have y : cs_at A R z a r = cs_at A R z a 0 + r := by unfold cs_at; omega
        rw [y, s1 r (by omega) (by omega), p.2.1 r (by omega) (by omega), ← y, e 5 (by decide) (by decide), un _ (by omega)]
        exact ⟨rfl, (X0.1 z a r zo).2⟩
      · rw [s2 _ (split4 z a r zo q), e 5 (by decide) (by decide), un _ (by omega), un _ (by omega)]
        exact X0.1 z a r zo
    exact cj_Xm hC X0 hJ.2.1.2.2.2.1 (.inr XG) (.inl ⟨e 6 (by decide) (by decide), fun j _ _ => un j (by omega)⟩) (.inl ⟨e 7 (by decide) (by decide), fun j _ => un j (by omega)⟩) (.inl ⟨by rw [e 8 (by decide) (by decide)], e 9 (by decide) (by decide), fun j _ => un j (by omega)⟩) (.inl ⟨e 16 (by decide) (by decide), e 17 (by decide) (by decide), fun j _ => un j (by omega)⟩) (.inl ⟨by rw [e 15 (by decide) (by decide)], by rw [e 15 (by decide) (by decide)], e 19 (by decide) (by decide), fun j _ => un j (by omega)⟩) (.inl ⟨e 21 (by decide) (by decide), e 22 (by decide) (by decide), e 23 (by decide) (by decide), e 24 (by decide) (by decide), fun j _ => un j (by omega)⟩)
  · refine M2_column (d := 9) hC hJ.2.1 (fun v2 w2 i2 fr2 p1 p0 f78 f76 => ⟨v2, rfl, fun _ => ?_⟩)
    have p := p0 (fun x => no ⟨⟨x.1, x.2.1, by omega⟩, x.2.2⟩)
    rw [p.1]
    exact H 0 w2 (cj_ends hC hJ hJ.1 (fun _ _ => rfl) cj_Ce_rf ⟨rfl, rfl⟩ i2 fr2 f78 f76 (fun j _ => by rw [p.2]) (by rw [p.2]; exact X0))
