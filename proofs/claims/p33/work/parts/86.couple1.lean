/-! ===== both systems side by side: what holds between calls of the law ===== -/
def cj_N (A R : Nat) (u : ck_W) : Prop := (0 ≤ u 3 6 ∧ u 3 6 ≤ 20) ∧ (cs_T u ∧ cs_Y A R u ∧ cs_Yc A R u) ∧ cs_K R u ∧ (cs_Cd u ∧ cs_B u) ∧ cs_X u ∧ cs_P u
def cj_sh (w : ck_W) : ck_W := fun k => w (k + 24)
def cj_p (A : Nat) (u : ck_W) (f : Int → Int) : Prop := u 3 6 = f 1 ∧ ∀ z p, cs_pl A z p → (u 7 (z * 24 + p) = -1 ↔ rm_noPin f (f 1) z p)
def cj_b (A : Nat) (u : ck_W) (f : Int → Int) : Prop := u 10 5 = f 3 ∧ ∀ z p, cs_pl A z p → (u 14 (z * 24 + p) = -1 ↔ rm_noBit f (f 3) z p)
def cj_w (u : ck_W) (f : Int → Int) : Prop := u 15 5 = f 5 ∧ ∀ k, 0 ≤ k → k < f 5 → u 18 (k * 3) = f (1300 + 4 * k) ∧ u 18 (k * 3 + 1) = f (1300 + 4 * k + 1) ∧ u 18 (k * 3 + 2) = f (1300 + 4 * k + 2)
def cx_g (A R : Nat) (u : ck_W) (f : Int → Int) : Prop := ∀ z a r, cs_ok A R z a r → u 4 (cs_at A R z a r) = f (20 + (72 * z + 12 * a + r)) ∧ u 5 (cs_at A R z a r) = f (460 + (72 * z + 12 * a + r))
def cx_t (u : ck_W) (f : Int → Int) : Prop := ∀ z, 0 ≤ z → z ≤ 5 → u 6 z = f (10 + z)
def cx_p (u : ck_W) (f : Int → Int) : Prop := ∀ k, 0 ≤ k → k < f 1 → u 7 (f (900 + 3 * k) * 24 + f (900 + 3 * k + 1)) = f (900 + 3 * k + 2)
def cx_k (u : ck_W) (f : Int → Int) : Prop := u 8 2 = f 7 ∧ ∀ t, 0 ≤ t → t < f 2 → u 9 t = f (970 + t)
def cx_l (u : ck_W) (f : Int → Int) : Prop := ∀ k, 0 ≤ k → k < f 4 → u 16 k = f (1270 + 2 * k) ∧ u 17 k = f (1270 + 2 * k + 1)
def cx_w (u : ck_W) (f : Int → Int) : Prop := (u 15 6 = f 8 ∧ u 15 7 = f 9) ∧ ∀ k, 0 ≤ k → k < f 5 → u 19 k = f (1300 + 4 * k + 3)
def cx_q (u : ck_W) (f : Int → Int) : Prop := (∀ k, 0 ≤ k → k < f 6 → u 21 k = f (1360 + 3 * k) ∧ u 22 k = f (1360 + 3 * k + 1) ∧ u 23 k = f (1360 + 3 * k + 2)) ∧ ∀ r, 0 ≤ r → r ≤ 3 → u 24 r = f (1420 + r)
/-- all values that both systems hold -/
def cj_X (A R : Nat) (u : ck_W) (f : Int → Int) : Prop := cx_g A R u f ∧ cx_t u f ∧ cx_p u f ∧ cx_k u f ∧ cx_l u f ∧ cx_w u f ∧ cx_q u f
theorem cx_g_fr {A R : Nat} {g : ch_G} (hC : ck_Cx g A R) {u u' : ck_W} {f f' : Int → Int} (h : cx_g A R u f) (e4 : ∀ j, 0 ≤ j → j < ((6 * A * R : Nat) : Int) → u' 4 j = u 4 j) (e5 : ∀ j, 0 ≤ j → j < ((6 * A * R : Nat) : Int) → u' 5 j = u 5 j) (ef : ∀ j, 20 ≤ j → j < 900 → f' j = f j) : cx_g A R u' f' := by
  intro z a r o
  have b := cs_atb hC o
  have c := cs_ar hC
  have o2 := o
  unfold cs_ok at o2
  rw [e4 _ b.1 b.2.1, e5 _ b.1 b.2.1, ef _ (by omega) (by omega), ef _ (by omega) (by omega)]
  exact h z a r o
theorem cx_t_fr {u u' : ck_W} {f f' : Int → Int} (h : cx_t u f) (e : ∀ j, 0 ≤ j → j < ((6 : Nat) : Int) → u' 6 j = u 6 j) (ef : ∀ j, 10 ≤ j → j < 16 → f' j = f j) : cx_t u' f' := by
  intro z z0 z1
  rw [e z z0 (by omega), ef _ (by omega) (by omega)]
  exact h z z0 z1
theorem cx_p_fr {A R : Nat} {g : ch_G} (hC : ck_Cx g A R) {u u' : ck_W} {f f' : Int → Int} (h : cx_p u f) (hf : rm_A A R f) (e : ∀ j, 0 ≤ j → j < ((144 : Nat) : Int) → u' 7 j = u 7 j) (ef : ∀ j, j = 1 ∨ (900 ≤ j ∧ j < 960) → f' j = f j) : cx_p u' f' := by
  intro k k0 k1
  have c := cs_ar hC
  have b := rm_c0 hf
  rw [ef 1 (by omega)] at k1
  have p0 := rm_pin0 hf (k := k) k0 (by omega)
  have p1 := rm_pin1 hf (k := k) k0 (by omega)
  rw [ef _ (by omega), ef _ (by omega), ef _ (by omega), e _ (by omega) (by omega)]
  exact h k k0 k1
theorem cx_k_fr {u u' : ck_W} {f f' : Int → Int} (h : cx_k u f) (hb : f 2 ≤ 30) (e8 : u' 8 2 = u 8 2) (e : ∀ j, 0 ≤ j → j < ((30 : Nat) : Int) → u' 9 j = u 9 j) (ef : ∀ j, j = 2 ∨ j = 7 ∨ (970 ≤ j ∧ j < 1000) → f' j = f j) : cx_k u' f' := by
  refine ⟨by rw [e8, ef 7 (by omega)]; exact h.1, fun t t0 t1 => ?_⟩
  rw [ef 2 (by omega)] at t1
  rw [e t t0 (by omega), ef _ (by omega)]
  exact h.2 t t0 t1
theorem cx_l_fr {u u' : ck_W} {f f' : Int → Int} (h : cx_l u f) (hb : f 4 ≤ 12) (e6 : ∀ j, 0 ≤ j → j < ((12 : Nat) : Int) → u' 16 j = u 16 j) (e7 : ∀ j, 0 ≤ j → j < ((12 : Nat) : Int) → u' 17 j = u 17 j) (ef : ∀ j, j = 4 ∨ (1270 ≤ j ∧ j < 1294) → f' j = f j) : cx_l u' f' := by
  intro k k0 k1
  rw [ef 4 (by omega)] at k1
  rw [e6 k k0 (by omega), e7 k k0 (by omega), ef _ (by omega), ef _ (by omega)]
  exact h k k0 k1
theorem cx_w_fr {u u' : ck_W} {f f' : Int → Int} (h : cx_w u f) (hb : f 5 ≤ 12) (e6 : u' 15 6 = u 15 6) (e7 : u' 15 7 = u 15 7) (e9 : ∀ j, 0 ≤ j → j < ((12 : Nat) : Int) → u' 19 j = u 19 j) (ef : ∀ j, j = 5 ∨ j = 8 ∨ j = 9 ∨ (1300 ≤ j ∧ j < 1348) → f' j = f j) : cx_w u' f' := by
  refine ⟨⟨by rw [e6, ef 8 (by omega)]; exact h.1.1, by rw [e7, ef 9 (by omega)]; exact h.1.2⟩, fun k k0 k1 => ?_⟩
  rw [ef 5 (by omega)] at k1
  rw [e9 k k0 (by omega), ef _ (by omega)]
  exact h.2 k k0 k1
theorem cx_q_fr {u u' : ck_W} {f f' : Int → Int} (h : cx_q u f) (hb : f 6 ≤ 16) (e1 : ∀ j, 0 ≤ j → j < ((16 : Nat) : Int) → u' 21 j = u 21 j) (e2 : ∀ j, 0 ≤ j → j < ((16 : Nat) : Int) → u' 22 j = u 22 j) (e3 : ∀ j, 0 ≤ j → j < ((16 : Nat) : Int) → u' 23 j = u 23 j) (e4 : ∀ j, 0 ≤ j → j < ((4 : Nat) : Int) → u' 24 j = u 24 j) (ef : ∀ j, j = 6 ∨ (1360 ≤ j ∧ j < 1408) ∨ (1420 ≤ j ∧ j < 1424) → f' j = f j) : cx_q u' f' := by
  refine ⟨fun k k0 k1 => ?_, fun r r0 r1 => ?_⟩
  · rw [ef 6 (by omega)] at k1
    rw [e1 k k0 (by omega), e2 k k0 (by omega), e3 k k0 (by omega), ef _ (by omega), ef _ (by omega), ef _ (by omega)]
    exact h.1 k k0 k1
  · rw [e4 r r0 (by omega), ef _ (by omega)]
    exact h.2 r r0 r1
def cj_C (A R : Nat) (u : ck_W) (f : Int → Int) : Prop := cj_p A u f ∧ cj_b A u f ∧ cj_w u f ∧ u 8 1 = f 2 ∧ u 15 2 = f 4 ∧ u 20 3 = f 6 ∧ cj_X A R u f
def cj_JC (A R : Nat) (w : ck_W) : Prop := cw_IV A R w ∧ cj_N A R w ∧ cj_N A R (cj_sh w) ∧ cs_Pz w
/-- readers: how many, and what they learnt from -/
def cj_r (u : ck_W) (f : Int → Int) : Prop := u 10 3 = f 0 ∧ ∀ r, 0 ≤ r → r < f 0 → u 13 r = f (1260 + r)
/-- the tape and the last fault -/
def cj_t (w : ck_W) : Prop := w 67 1 = w 76 16 ∧ (∀ j, 0 ≤ j → j < w 67 1 → w 68 j = w 89 j) ∧ w 67 2 = w 76 17 ∧ w 67 3 = w 76 18
def cj_E (w : ck_W) : Prop := cj_t w ∧ cj_r w (w 77) ∧ cj_r (cj_sh w) (w 78)
def cj_J (A R : Nat) (w : ck_W) : Prop := cj_JC A R w ∧ rm_I A R w ∧ cj_C A R w (w 77) ∧ cj_C A R (cj_sh w) (w 78) ∧ cj_E w
def cj_Cf (w w1 : ck_W) : Prop := w1 10 3 = w 10 3 ∧ w1 13 = w 13
theorem cj_t_fr {w w1 w2 : ck_W} (h : cj_t w) (e : ∀ k, (67 ≤ k ∧ k ≤ 68) ∨ 76 ≤ k → w1 k = w k) (fr : rm_fr w1 w2) (f76 : w2 76 = w1 76) : cj_t w2 := by
  unfold cj_t
  rw [fr 67 (by omega), fr 68 (by omega), fr 89 (by omega), f76, e 67 (by omega), e 68 (by omega), e 76 (by omega), e 89 (by omega)]
  exact h
theorem cj_r_fr {w w1 w2 : ck_W} (h : cj_r w (w 77)) (hb : w 77 0 ≤ 4) (a : cj_Cf w w1) (e77 : w1 77 = w 77) (fr : rm_fr w1 w2) (r : ∀ j, j = 0 ∨ (1260 ≤ j ∧ j < 1264) → w2 77 j = w1 77 j) : cj_r w2 (w2 77) := by
  obtain ⟨h1, h2⟩ := h
  refine ⟨?_, fun k k0 k1 => ?_⟩
  · rw [fr 10 (by omega), a.1, r 0 (by omega), e77]; exact h1
  · rw [r 0 (by omega), e77] at k1
    rw [fr 13 (by omega), a.2, r _ (by omega), e77]
    exact h2 k k0 k1
theorem cj_rk_fr {w w1 w2 : ck_W} (h : cj_r (cj_sh w) (w 78)) (e : ∀ k, (27 ≤ k ∧ k ≤ 48) ∨ 76 ≤ k → w1 k = w k) (fr : rm_fr w1 w2) (e78 : w2 78 = w1 78) : cj_r (cj_sh w2) (w2 78) := by
  have a : cj_sh w2 10 = cj_sh w 10 := (fr 34 (by omega)).trans (e 34 (by omega))
  have c : cj_sh w2 13 = cj_sh w 13 := (fr 37 (by omega)).trans (e 37 (by omega))
  unfold cj_r
  rw [a, c, e78, e 78 (by omega)]
  exact h
theorem cs_eq_of {A R : Nat} {u u' : ck_W} (e : ∀ k, 3 ≤ k → k ≤ 24 → u' k = u k) : cs_eq A R u u' 0 0 := by
  unfold cs_eq cs_er
  simp only [Nat.add_zero]
  rw [e 3 (by decide) (by decide), e 4 (by decide) (by decide), e 5 (by decide) (by decide), e 6 (by decide) (by decide), e 7 (by decide) (by decide), e 8 (by decide) (by decide), e 9 (by decide) (by decide), e 10 (by decide) (by decide), e 11 (by decide) (by decide), e 12 (by decide) (by decide), e 13 (by decide) (by decide), e 14 (by decide) (by decide), e 15 (by decide) (by decide), e 16 (by decide) (by decide), e 17 (by decide) (by decide), e 18 (by decide) (by decide), e 19 (by decide) (by decide), e 20 (by decide) (by decide), e 21 (by decide) (by decide), e 22 (by decide) (by decide), e 23 (by decide) (by decide), e 24 (by decide) (by decide)]
  simp only [implies_true, and_self]
theorem cj_X_er {A R : Nat} {g : ch_G} (hC : ck_Cx g A R) {u u' : ck_W} {f f' : Int → Int} (h : cj_X A R u f) (hf : rm_A A R f) (e : cs_eq A R u u' 0 0) (ef : ∀ j, (1 ≤ j ∧ j < 1250) ∨ (1270 ≤ j ∧ j < 1430) → f' j = f j) : cj_X A R u' f' := by
  unfold cs_eq cs_er at e
  simp only [Nat.add_zero] at e
  obtain ⟨⟨e4, e5, e6, e7, e9⟩, ⟨e11, e12, e13, e14⟩, ⟨e16, e17, e18, e19⟩, ⟨e21, e22, e23, e24⟩, s3, s81, s82, s103, s105, s152, s155, s156, s157, s203⟩ := e
  have c := rm_c0 hf
  obtain ⟨a1, a2, a3, a4, a5, a6, a7⟩ := h
  exact ⟨cx_g_fr hC a1 e4 e5 (fun j _ _ => ef j (by omega)), cx_t_fr a2 e6 (fun j _ _ => ef j (by omega)), cx_p_fr hC a3 hf e7 (fun j _ => ef j (by omega)), cx_k_fr a4 (by omega) s82 e9 (fun j _ => ef j (by omega)), cx_l_fr a5 (by omega) e16 e17 (fun j _ => ef j (by omega)), cx_w_fr a6 (by omega) s156 s157 e19 (fun j _ => ef j (by omega)), cx_q_fr a7 (by omega) e21 e22 e23 e24 (fun j _ => ef j (by omega))⟩
theorem cj_N_er {A R : Nat} {u u' : ck_W} (h : cj_N A R u) (e : cs_eq A R u u' 0 0) : cj_N A R u' := by
  unfold cs_eq cs_er at e
  simp only [Nat.add_zero] at e
  obtain ⟨⟨e4, e5, e6, e7, e9⟩, ⟨e11, e12, e13, e14⟩, ⟨e16, e17, e18, e19⟩, ⟨e21, e22, e23, e24⟩, s3, s81, s82, s103, s105, s152, s155, s156, s157, s203⟩ := e
  obtain ⟨n1, ⟨n2, n3, n4⟩, n5, ⟨n6, n7⟩, n8, n9⟩ := h
  refine ⟨by rw [s3]; exact n1, ⟨fun z z0 z1 => ?_, fun j j0 j1 => ?_, fun j j0 j1 => ?_⟩, ⟨by rw [s81]; exact n5.1, by rw [s82]; exact n5.2.1, fun t t0 t1 => ?_⟩, ⟨⟨by rw [s103]; exact n6.1, fun r r0 r1 => ?_⟩, ⟨by rw [s105]; exact n7.1, fun j j0 j1 => ?_⟩⟩, ⟨⟨by rw [s152]; exact n8.1.1, fun k k0 k1 => ?_⟩, fun k k0 k1 => ?_, ⟨by rw [s156]; exact n8.2.2.1.1, by rw [s157]; exact n8.2.2.1.2⟩, by rw [s155]; exact n8.2.2.2.1, fun k k0 k1 => ?_⟩, ⟨by rw [s203]; exact n9.1, fun k k0 k1 => ?_, fun r r0 r1 => ?_⟩⟩
  · rw [e6 z z0 (by omega)]; exact n2 z z0 z1
  · rw [e4 j j0 j1]; exact n3 j j0 j1
  · rw [e5 j j0 j1]; exact n4 j j0 j1
  · rw [s81] at t1
    have q := n5.1
    rw [e9 t t0 (by omega)]; exact n5.2.2 t t0 t1
  · rw [s103] at r1
    have q := n6.1
    have b := n6.2 r r0 r1
    rw [e12 r r0 (by omega)]
    refine ⟨b.1, fun i i0 i1 => ?_⟩
    have b1 := b.1
    rw [e11 _ (by omega) (by omega)]
    exact b.2 i i0 i1
  · rw [e14 j j0 j1]; exact n7.2 j j0 j1
  · rw [s152] at k1
    have q := n8.1.1
    rw [e16 k k0 (by omega)]; exact n8.1.2 k k0 k1
  · rw [s152] at k1
    have q := n8.1.1
    rw [e17 k k0 (by omega)]; exact n8.2.1 k k0 k1
  · rw [s155] at k1
    have q := n8.2.2.2.1
    rw [e19 k k0 (by omega), e18 (k * 3) (by omega) (by omega), e18 (k * 3 + 1) (by omega) (by omega), e18 (k * 3 + 2) (by omega) (by omega), s152]
    exact n8.2.2.2.2 k k0 k1
  · rw [s203] at k1
    have q := n9.1
    rw [e21 k k0 (by omega), e22 k k0 (by omega), e23 k k0 (by omega)]
    exact n9.2.1 k k0 k1
  · rw [e24 r r0 (by omega)]; exact n9.2.2 r r0 r1
theorem cj_N_fr {A R : Nat} {u u' : ck_W} (h : cj_N A R u) (e : ∀ k, 3 ≤ k → k ≤ 24 → u' k = u k) : cj_N A R u' := cj_N_er h (cs_eq_of e)
theorem cj_p_fr {A R : Nat} {g : ch_G} (hC : ck_Cx g A R) {u u' : ck_W} {f f' : Int → Int} (h : cj_p A u f) (hb : 0 ≤ f 1 ∧ f 1 ≤ 20) (e3 : u' 3 6 = u 3 6) (e7 : ∀ j, 0 ≤ j → j < 144 → u' 7 j = u 7 j) (ef : ∀ j, j = 1 ∨ (900 ≤ j ∧ j < 960) → f' j = f j) : cj_p A u' f' := by
  have c := cs_ar hC
  refine ⟨by rw [e3, ef 1 (by omega)]; exact h.1, fun z p hz => ?_⟩
  have hz2 := hz
  unfold cs_pl at hz2
  rw [e7 _ (by omega) (by omega), ef 1 (by omega), h.2 z p hz]
  refine forall_congr' fun k => forall_congr' fun k0 => forall_congr' fun k1 => ?_
  rw [ef _ (by omega), ef _ (by omega)]
theorem cj_b_fr {A R : Nat} {g : ch_G} (hC : ck_Cx g A R) {u u' : ck_W} {f f' : Int → Int} (h : cj_b A u f) (hb : 0 ≤ f 3 ∧ f 3 ≤ 60) (e3 : u' 10 5 = u 10 5) (e7 : ∀ j, 0 ≤ j → j < 144 → u' 14 j = u 14 j) (ef : ∀ j, j = 3 ∨ (1010 ≤ j ∧ j < 1250) → f' j = f j) : cj_b A u' f' := by
  have c := cs_ar hC
  refine ⟨by rw [e3, ef 3 (by omega)]; exact h.1, fun z p hz => ?_⟩
  have hz2 := hz
  unfold cs_pl at hz2
  rw [e7 _ (by omega) (by omega), ef 3 (by omega), h.2 z p hz]
  refine forall_congr' fun k => forall_congr' fun k0 => forall_congr' fun k1 => ?_
  rw [ef _ (by omega), ef _ (by omega)]
theorem cj_w_fr {u u' : ck_W} {f f' : Int → Int} (h : cj_w u f) (hb : 0 ≤ f 5 ∧ f 5 ≤ 12) (e5 : u' 15 5 = u 15 5) (e18 : ∀ j, 0 ≤ j → j < 36 → u' 18 j = u 18 j) (ef : ∀ j, j = 5 ∨ (1300 ≤ j ∧ j < 1348) → f' j = f j) : cj_w u' f' := by
  refine ⟨by rw [e5, ef 5 (by omega)]; exact h.1, fun k k0 k1 => ?_⟩
  rw [ef 5 (by omega)] at k1
  rw [e18 _ (by omega) (by omega), e18 _ (by omega) (by omega), e18 _ (by omega) (by omega), ef _ (by omega), ef _ (by omega), ef _ (by omega)]
  exact h.2 k k0 k1
theorem cj_C_er {A R : Nat} {g : ch_G} (hC : ck_Cx g A R) {u u' : ck_W} {f f' : Int → Int} (h : cj_C A R u f) (hf : rm_A A R f) (e : cs_eq A R u u' 0 0) (ef : ∀ j, (1 ≤ j ∧ j < 1250) ∨ (1270 ≤ j ∧ j < 1430) → f' j = f j) : cj_C A R u' f' := by
  have e0 := e
  unfold cs_eq cs_er at e
  simp only [Nat.add_zero] at e
  obtain ⟨⟨e4, e5, e6, e7, e9⟩, ⟨e11, e12, e13, e14⟩, ⟨e16, e17, e18, e19⟩, ⟨e21, e22, e23, e24⟩, s3, s81, s82, s103, s105, s152, s155, s156, s157, s203⟩ := e
  have c := rm_c0 hf
  obtain ⟨a1, a2, a3, a4, a5, a6, a7⟩ := h
  exact ⟨cj_p_fr hC a1 (by omega) s3 e7 (fun j hj => ef j (by omega)), cj_b_fr hC a2 (by omega) s105 e14 (fun j hj => ef j (by omega)), cj_w_fr a3 (by omega) s155 e18 (fun j hj => ef j (by omega)), by rw [s81, ef 2 (by omega)]; exact a4, by rw [s152, ef 4 (by omega)]; exact a5, by rw [s203, ef 6 (by omega)]; exact a6, cj_X_er hC a7 hf e0 ef⟩
theorem cj_C_fr {A R : Nat} {g : ch_G} (hC : ck_Cx g A R) {u u' : ck_W} {f f' : Int → Int} (h : cj_C A R u f) (hf : rm_A A R f) (e : ∀ k, 3 ≤ k → k ≤ 24 → u' k = u k) (ef : ∀ j, (1 ≤ j ∧ j < 1250) ∨ (1270 ≤ j ∧ j < 1430) → f' j = f j) : cj_C A R u' f' := cj_C_er hC h hf (cs_eq_of e) ef
theorem rm_I_fr {A R : Nat} {w w1 : ck_W} (h : rm_I A R w) (e : ∀ k, 76 ≤ k → w1 k = w k) : rm_I A R w1 := by
  unfold rm_I
  rw [e 76 (by decide), e 77 (by decide), e 78 (by decide), e 79 (by decide)]
  exact h
theorem cs_Pz_fr {w w1 : ck_W} (h : cs_Pz w) (e : ∀ k, 67 ≤ k → k ≤ 69 → w1 k = w k) : cs_Pz w1 := by
  unfold cs_Pz cs_Tp
  rw [e 67 (by decide) (by decide), e 68 (by decide) (by decide), e 69 (by decide) (by decide)]
  exact h
theorem cj_JC_fr {A R : Nat} {g : ch_G} (hC : ck_Cx g A R) {w w' : ck_W} (h : cj_JC A R w) (e : rm_fr w w') : cj_JC A R w' :=
  ⟨cw_IV_fr hC h.1 (fun k hk => e k (by omega)), cj_N_fr h.2.1 (fun k a b => e k (by omega)), cj_N_fr h.2.2.1 (fun k a b => e (k + 24) (by omega)), cs_Pz_fr h.2.2.2 (fun k a b => e k (by omega))⟩
/-- the class's rows after a call that keeps the kept rows and the tape -/
theorem cj_JCs {A R : Nat} {w w1 : ck_W} (h : cj_JC A R w) (hI : cw_IV A R w1) (hN : cj_N A R w1) (e : ∀ k, (27 ≤ k ∧ k ≤ 48) ∨ (67 ≤ k ∧ k ≤ 69) → w1 k = w k) : cj_JC A R w1 :=
  ⟨hI, hN, cj_N_fr h.2.2.1 (fun k a b => e (k + 24) (by omega)), cs_Pz_fr h.2.2.2 (fun k a b => e k (by omega))⟩
/-- the end of a pair of calls: class from w to w1, reference from w1 to w2 -/
theorem cj_end0 {A R : Nat} {g : ch_G} (hC : ck_Cx g A R) {w w1 w2 : ck_W} (hJ : cj_J A R w) (h1 : cj_JC A R w1) (e : ∀ k, (27 ≤ k ∧ k ≤ 48) ∨ 76 ≤ k → w1 k = w k) (i2 : rm_I A R w2) (fr : ∀ k, k < 76 → w2 k = w1 k) (e78 : w2 78 = w1 78) (c : cj_C A R w1 (w2 77)) (hE : cj_E w2) : cj_J A R w2 := by
  refine ⟨⟨cw_IV_fr hC h1.1 (fun k hk => fr k (by omega)), cj_N_fr h1.2.1 (fun k a b => fr k (by omega)), cj_N_fr h1.2.2.1 (fun k a b => fr (k + 24) (by omega)), cs_Pz_fr h1.2.2.2 (fun k a b => fr k (by omega))⟩, i2, cj_C_fr hC c i2.2.2.2.1 (fun k a b => fr k (by omega)) (fun _ _ => rfl), ?_, hE⟩
  rw [e78, e 78 (by omega)]
  exact cj_C_fr hC hJ.2.2.2.1 hJ.2.1.2.2.2.2.1 (fun k a b => (fr (k + 24) (by omega)).trans (e (k + 24) (by omega))) (fun _ _ => rfl)
theorem cj_end {A R : Nat} {g : ch_G} (hC : ck_Cx g A R) {w w1 w2 : ck_W} (hJ : cj_J A R w) (h1 : cj_JC A R w1) (e : ∀ k, (27 ≤ k ∧ k ≤ 48) ∨ (67 ≤ k ∧ k ≤ 68) ∨ 76 ≤ k → w1 k = w k) (i2 : rm_I A R w2) (fr : rm_fr w1 w2) (e78 : w2 78 = w1 78) (c : cj_C A R w1 (w2 77)) (a : cj_Cf w w1) (f76 : w2 76 = w1 76) (r : ∀ j, j = 0 ∨ (1260 ≤ j ∧ j < 1264) → w2 77 j = w1 77 j) : cj_J A R w2 :=
  cj_end0 hC hJ h1 (fun k hk => e k (by omega)) i2 (fun k hk => fr k (by omega)) e78 c ⟨cj_t_fr hJ.2.2.2.2.1 (fun k hk => e k (by omega)) fr f76, cj_r_fr hJ.2.2.2.2.2.1 (by have := (rm_c0 hJ.2.1.2.2.2.1).1; omega) a (e 77 (by omega)) fr r, cj_rk_fr hJ.2.2.2.2.2.2 (fun k hk => e k (by omega)) fr e78⟩
/-- a quiet pair of calls -/
theorem cj_quiet {A R : Nat} {g : ch_G} (hC : ck_Cx g A R) {w w1 w2 : ck_W} (hJ : cj_J A R w) (hQ : cs_Q w w1) (hI : cw_IV A R w1) (hq : rm_q w1 w2) : cj_J A R w2 := by
  have c : cj_C A R w1 (w2 77) := by
    rw [hq.2.1, hQ 77 (by decide)]
    exact cj_C_fr hC hJ.2.2.1 hJ.2.1.2.2.2.1 (fun k a b => hQ k (by omega)) (fun _ _ => rfl)
  exact cj_end hC hJ (cj_JCs hJ.1 hI (cj_N_fr hJ.1.2.1 (fun k a b => hQ k (by omega))) (fun k hk => hQ k (by omega))) (fun k hk => hQ k (by omega)) (rm_I_q (rm_I_fr hJ.2.1 (fun k hk => hQ k (by omega))) hq) hq.2.2.2.2 hq.2.2.1 c ⟨by rw [hQ 10 (by omega)], hQ 13 (by omega)⟩ hq.1 (fun j _ => by rw [hq.2.1])
theorem cj_I1 {A R : Nat} {w w1 : ck_W} (hJ : cj_J A R w) (hQ : cs_Q w w1) : rm_I A R w1 := rm_I_fr hJ.2.1 (fun k hk => hQ k (by omega))
theorem ck_and255 (x : Int) : 0 ≤ ck_and x 255 ∧ ck_and x 255 ≤ 255 := by
  have e : Int32.ofInt x = Int32.ofNat (Int32.ofInt x).toBitVec.toNat := Int32.toBitVec_inj.mp (by show _ = BitVec.ofNat 32 _; rw [BitVec.ofNat_toNat, BitVec.setWidth_eq])
  have e2 : Int32.ofInt 255 = Int32.ofNat 255 := by decide
  unfold ck_and
  rw [e, e2, kb_and0]
  have b : (Int32.ofInt x).toBitVec.toNat &&& 255 ≤ 255 := Nat.and_le_right
  rw [kb_i (by omega)]
  omega
theorem ck_dgb : ∀ (n : Nat) (x : Int), 0 ≤ ck_dg n x ∧ ck_dg n x ≤ 9
  | 0, x => by rw [ck_dg]; omega
  | n + 1, x => by rw [ck_dg]; exact ck_dgb n _
