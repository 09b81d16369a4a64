/-! ===== both systems side by side: what holds between calls of the law ===== -/
def cj_N (A R : Nat) (u : ck_W) : Prop := (0 ≤ u 3 6 ∧ u 3 6 ≤ 20) ∧ (cs_T u ∧ cs_Y A R u ∧ cs_Yc A R u) ∧ cs_K R u ∧ (cs_Cd u ∧ cs_B u) ∧ cs_X u ∧ cs_P u
def cj_sh (w : ck_W) : ck_W := fun k => w (k + 24)
def cj_p (A : Nat) (u : ck_W) (f : Int → Int) : Prop := u 3 6 = f 1 ∧ ∀ z p, cs_pl A z p → (u 7 (z * 24 + p) = -1 ↔ rm_noPin f (f 1) z p)
def cj_b (A : Nat) (u : ck_W) (f : Int → Int) : Prop := u 10 5 = f 3 ∧ ∀ z p, cs_pl A z p → (u 14 (z * 24 + p) = -1 ↔ rm_noBit f (f 3) z p)
def cj_w (u : ck_W) (f : Int → Int) : Prop := u 15 5 = f 5 ∧ ∀ k, 0 ≤ k → k < f 5 → u 18 (k * 3) = f (1300 + 4 * k) ∧ u 18 (k * 3 + 1) = f (1300 + 4 * k + 1) ∧ u 18 (k * 3 + 2) = f (1300 + 4 * k + 2)
def cj_C (A : Nat) (u : ck_W) (f : Int → Int) : Prop := cj_p A u f ∧ cj_b A u f ∧ cj_w u f ∧ u 8 1 = f 2 ∧ u 15 2 = f 4 ∧ u 20 3 = f 6
def cj_JC (A R : Nat) (w : ck_W) : Prop := cw_IV A R w ∧ cj_N A R w ∧ cj_N A R (cj_sh w) ∧ cs_Pz w
def cj_J (A R : Nat) (w : ck_W) : Prop := cj_JC A R w ∧ rm_I A R w ∧ cj_C A w (w 77) ∧ cj_C A (cj_sh w) (w 78)
theorem cs_eq_of {A R : Nat} {u u' : ck_W} (e : ∀ k, 3 ≤ k → k ≤ 24 → u' k = u k) : cs_eq A R u u' 0 0 := by
  unfold cs_eq cs_er
  simp only [Nat.add_zero]
  rw [e 3 (by decide) (by decide), e 4 (by decide) (by decide), e 5 (by decide) (by decide), e 6 (by decide) (by decide), e 7 (by decide) (by decide), e 8 (by decide) (by decide), e 9 (by decide) (by decide), e 10 (by decide) (by decide), e 11 (by decide) (by decide), e 12 (by decide) (by decide), e 13 (by decide) (by decide), e 14 (by decide) (by decide), e 15 (by decide) (by decide), e 16 (by decide) (by decide), e 17 (by decide) (by decide), e 18 (by decide) (by decide), e 19 (by decide) (by decide), e 20 (by decide) (by decide), e 21 (by decide) (by decide), e 22 (by decide) (by decide), e 23 (by decide) (by decide), e 24 (by decide) (by decide)]
  simp only [implies_true, and_self]
theorem cj_N_er {A R : Nat} {u u' : ck_W} (h : cj_N A R u) (e : cs_eq A R u u' 0 0) : cj_N A R u' := by
  unfold cs_eq cs_er at e
  simp only [Nat.add_zero] at e
  obtain ⟨⟨e4, e5, e6, e7, e9⟩, ⟨e11, e12, e13, e14⟩, ⟨e16, e17, e18, e19⟩, ⟨e21, e22, e23, e24⟩, s3, s81, s82, s103, s105, s152, s155, s156, s157, s203⟩ := e
  obtain ⟨n1, ⟨n2, n3, n4⟩, n5, ⟨n6, n7⟩, n8, n9⟩ := h
  refine ⟨by rw [s3]; exact n1, ⟨fun z z0 z1 => ?_, fun j j0 j1 => ?_, fun j j0 j1 => ?_⟩, ⟨by rw [s81]; exact n5.1, by rw [s82]; exact n5.2.1, fun t t0 t1 => ?_⟩, ⟨⟨by rw [s103]; exact n6.1, fun r r0 r1 => ?_⟩, ⟨by rw [s105]; exact n7.1, fun j j0 j1 => ?_⟩⟩, ⟨⟨by rw [s152]; exact n8.1.1, fun k k0 k1 => ?_⟩, fun k k0 k1 => ?_, ⟨by rw [s156]; exact n8.2.2.1.1, by rw [s157]; exact n8.2.2.1.2⟩, by rw [s155]; exact n8.2.2.2.1, fun k k0 k1 => ?_⟩, ⟨by rw [s203]; exact n9.1, fun k k0 k1 => ?_, fun r r0 r1 => ?_⟩⟩
  · rw [e6 z z0 (by omega)]; exact n2 z z0 z1
  · rw [e4 j j0 j1]; exact n3 j j0 j1
  · rw [e5 j j0 j1]; exact n4 j j0 j1
  · rw [s81] at t1
    have q := n5.1
    rw [e9 t t0 (by omega)]; exact n5.2.2 t t0 t1
  · rw [s103] at r1
    have q := n6.1
    have b := n6.2 r r0 r1
    rw [e12 r r0 (by omega)]
    refine ⟨b.1, fun i i0 i1 => ?_⟩
    have b1 := b.1
    rw [e11 _ (by omega) (by omega)]
    exact b.2 i i0 i1
  · rw [e14 j j0 j1]; exact n7.2 j j0 j1
  · rw [s152] at k1
    have q := n8.1.1
    rw [e16 k k0 (by omega)]; exact n8.1.2 k k0 k1
  · rw [s152] at k1
    have q := n8.1.1
    rw [e17 k k0 (by omega)]; exact n8.2.1 k k0 k1
  · rw [s155] at k1
    have q := n8.2.2.2.1
    rw [e19 k k0 (by omega), e18 (k * 3) (by omega) (by omega), e18 (k * 3 + 1) (by omega) (by omega), e18 (k * 3 + 2) (by omega) (by omega), s152]
    exact n8.2.2.2.2 k k0 k1
  · rw [s203] at k1
    have q := n9.1
    rw [e21 k k0 (by omega), e22 k k0 (by omega), e23 k k0 (by omega)]
    exact n9.2.1 k k0 k1
  · rw [e24 r r0 (by omega)]; exact n9.2.2 r r0 r1
theorem cj_N_fr {A R : Nat} {u u' : ck_W} (h : cj_N A R u) (e : ∀ k, 3 ≤ k → k ≤ 24 → u' k = u k) : cj_N A R u' := cj_N_er h (cs_eq_of e)
theorem cj_p_fr {A R : Nat} {g : ch_G} (hC : ck_Cx g A R) {u u' : ck_W} {f f' : Int → Int} (h : cj_p A u f) (hb : 0 ≤ f 1 ∧ f 1 ≤ 20) (e3 : u' 3 6 = u 3 6) (e7 : ∀ j, 0 ≤ j → j < 144 → u' 7 j = u 7 j) (ef : ∀ j, j = 1 ∨ (900 ≤ j ∧ j < 960) → f' j = f j) : cj_p A u' f' := by
  have c := cs_ar hC
  refine ⟨by rw [e3, ef 1 (by omega)]; exact h.1, fun z p hz => ?_⟩
  have hz2 := hz
  unfold cs_pl at hz2
  rw [e7 _ (by omega) (by omega), ef 1 (by omega), h.2 z p hz]
  refine forall_congr' fun k => forall_congr' fun k0 => forall_congr' fun k1 => ?_
  rw [ef _ (by omega), ef _ (by omega)]
theorem cj_b_fr {A R : Nat} {g : ch_G} (hC : ck_Cx g A R) {u u' : ck_W} {f f' : Int → Int} (h : cj_b A u f) (hb : 0 ≤ f 3 ∧ f 3 ≤ 60) (e3 : u' 10 5 = u 10 5) (e7 : ∀ j, 0 ≤ j → j < 144 → u' 14 j = u 14 j) (ef : ∀ j, j = 3 ∨ (1010 ≤ j ∧ j < 1250) → f' j = f j) : cj_b A u' f' := by
  have c := cs_ar hC
  refine ⟨by rw [e3, ef 3 (by omega)]; exact h.1, fun z p hz => ?_⟩
  have hz2 := hz
  unfold cs_pl at hz2
  rw [e7 _ (by omega) (by omega), ef 3 (by omega), h.2 z p hz]
  refine forall_congr' fun k => forall_congr' fun k0 => forall_congr' fun k1 => ?_
  rw [ef _ (by omega), ef _ (by omega)]
theorem cj_w_fr {u u' : ck_W} {f f' : Int → Int} (h : cj_w u f) (hb : 0 ≤ f 5 ∧ f 5 ≤ 12) (e5 : u' 15 5 = u 15 5) (e18 : ∀ j, 0 ≤ j → j < 36 → u' 18 j = u 18 j) (ef : ∀ j, j = 5 ∨ (1300 ≤ j ∧ j < 1348) → f' j = f j) : cj_w u' f' := by
  refine ⟨by rw [e5, ef 5 (by omega)]; exact h.1, fun k k0 k1 => ?_⟩
  rw [ef 5 (by omega)] at k1
  rw [e18 _ (by omega) (by omega), e18 _ (by omega) (by omega), e18 _ (by omega) (by omega), ef _ (by omega), ef _ (by omega), ef _ (by omega)]
  exact h.2 k k0 k1
theorem cj_C_er {A R : Nat} {g : ch_G} (hC : ck_Cx g A R) {u u' : ck_W} {f f' : Int → Int} (h : cj_C A u f) (hf : rm_A A R f) (e : cs_eq A R u u' 0 0) (ef : ∀ j, (1 ≤ j ∧ j ≤ 6) ∨ (900 ≤ j ∧ j < 1250) ∨ (1300 ≤ j ∧ j < 1348) → f' j = f j) : cj_C A u' f' := by
  unfold cs_eq cs_er at e
  simp only [Nat.add_zero] at e
  obtain ⟨⟨e4, e5, e6, e7, e9⟩, ⟨e11, e12, e13, e14⟩, ⟨e16, e17, e18, e19⟩, ⟨e21, e22, e23, e24⟩, s3, s81, s82, s103, s105, s152, s155, s156, s157, s203⟩ := e
  have c := rm_c0 hf
  obtain ⟨a1, a2, a3, a4, a5, a6⟩ := h
  exact ⟨cj_p_fr hC a1 (by omega) s3 e7 (fun j hj => ef j (by omega)), cj_b_fr hC a2 (by omega) s105 e14 (fun j hj => ef j (by omega)), cj_w_fr a3 (by omega) s155 e18 (fun j hj => ef j (by omega)), by rw [s81, ef 2 (by omega)]; exact a4, by rw [s152, ef 4 (by omega)]; exact a5, by rw [s203, ef 6 (by omega)]; exact a6⟩
theorem cj_C_fr {A R : Nat} {g : ch_G} (hC : ck_Cx g A R) {u u' : ck_W} {f f' : Int → Int} (h : cj_C A u f) (hf : rm_A A R f) (e : ∀ k, 3 ≤ k → k ≤ 24 → u' k = u k) (ef : ∀ j, (1 ≤ j ∧ j ≤ 6) ∨ (900 ≤ j ∧ j < 1250) ∨ (1300 ≤ j ∧ j < 1348) → f' j = f j) : cj_C A u' f' := cj_C_er hC h hf (cs_eq_of e) ef
theorem rm_I_fr {A R : Nat} {w w1 : ck_W} (h : rm_I A R w) (e : ∀ k, 76 ≤ k → w1 k = w k) : rm_I A R w1 := by
  unfold rm_I
  rw [e 76 (by decide), e 77 (by decide), e 78 (by decide), e 79 (by decide)]
  exact h
theorem cs_Pz_fr {w w1 : ck_W} (h : cs_Pz w) (e : ∀ k, 67 ≤ k → k ≤ 69 → w1 k = w k) : cs_Pz w1 := by
  unfold cs_Pz cs_Tp
  rw [e 67 (by decide) (by decide), e 68 (by decide) (by decide), e 69 (by decide) (by decide)]
  exact h
theorem cj_JC_fr {A R : Nat} {g : ch_G} (hC : ck_Cx g A R) {w w' : ck_W} (h : cj_JC A R w) (e : rm_fr w w') : cj_JC A R w' :=
  ⟨cw_IV_fr hC h.1 (fun k hk => e k (by omega)), cj_N_fr h.2.1 (fun k a b => e k (by omega)), cj_N_fr h.2.2.1 (fun k a b => e (k + 24) (by omega)), cs_Pz_fr h.2.2.2 (fun k a b => e k (by omega))⟩
/-- the class's rows after a call that keeps the kept rows and the tape -/
theorem cj_JCs {A R : Nat} {w w1 : ck_W} (h : cj_JC A R w) (hI : cw_IV A R w1) (hN : cj_N A R w1) (e : ∀ k, (27 ≤ k ∧ k ≤ 48) ∨ (67 ≤ k ∧ k ≤ 69) → w1 k = w k) : cj_JC A R w1 :=
  ⟨hI, hN, cj_N_fr h.2.2.1 (fun k a b => e (k + 24) (by omega)), cs_Pz_fr h.2.2.2 (fun k a b => e k (by omega))⟩
/-- the end of a pair of calls: class from w to w1, reference from w1 to w2 -/
theorem cj_end {A R : Nat} {g : ch_G} (hC : ck_Cx g A R) {w w1 w2 : ck_W} (hJ : cj_J A R w) (h1 : cj_JC A R w1) (e : ∀ k, (27 ≤ k ∧ k ≤ 48) ∨ 76 ≤ k → w1 k = w k) (i2 : rm_I A R w2) (fr : rm_fr w1 w2) (e78 : w2 78 = w1 78) (c : cj_C A w1 (w2 77)) : cj_J A R w2 := by
  refine ⟨cj_JC_fr hC h1 fr, i2, cj_C_fr hC c i2.2.2.2.1 (fun k a b => fr k (by omega)) (fun _ _ => rfl), ?_⟩
  rw [e78, e 78 (by omega)]
  exact cj_C_fr hC hJ.2.2.2 hJ.2.1.2.2.2.2.1 (fun k a b => (fr (k + 24) (by omega)).trans (e (k + 24) (by omega))) (fun _ _ => rfl)
/-- a quiet pair of calls -/
theorem cj_quiet {A R : Nat} {g : ch_G} (hC : ck_Cx g A R) {w w1 w2 : ck_W} (hJ : cj_J A R w) (hQ : cs_Q w w1) (hI : cw_IV A R w1) (hq : rm_q w1 w2) : cj_J A R w2 := by
  have c : cj_C A w1 (w2 77) := by
    rw [hq.2.1, hQ 77 (by decide)]
    exact cj_C_fr hC hJ.2.2.1 hJ.2.1.2.2.2.1 (fun k a b => hQ k (by omega)) (fun _ _ => rfl)
  exact cj_end hC hJ (cj_JCs hJ.1 hI (cj_N_fr hJ.1.2.1 (fun k a b => hQ k (by omega))) (fun k hk => hQ k (by omega))) (fun k hk => hQ k (by omega)) (rm_I_q (rm_I_fr hJ.2.1 (fun k hk => hQ k (by omega))) hq) hq.2.2.2.2 hq.2.2.1 c
theorem cj_I1 {A R : Nat} {w w1 : ck_W} (hJ : cj_J A R w) (hQ : cs_Q w w1) : rm_I A R w1 := rm_I_fr hJ.2.1 (fun k hk => hQ k (by omega))
theorem ck_and255 (x : Int) : 0 ≤ ck_and x 255 ∧ ck_and x 255 ≤ 255 := by
  have e : Int32.ofInt x = Int32.ofNat (Int32.ofInt x).toBitVec.toNat := Int32.toBitVec_inj.mp (by show _ = BitVec.ofNat 32 _; rw [BitVec.ofNat_toNat, BitVec.setWidth_eq])
  have e2 : Int32.ofInt 255 = Int32.ofNat 255 := by decide
  unfold ck_and
  rw [e, e2, kb_and0]
  have b : (Int32.ofInt x).toBitVec.toNat &&& 255 ≤ 255 := Nat.and_le_right
  rw [kb_i (by omega)]
  omega
theorem ck_dgb : ∀ (n : Nat) (x : Int), 0 ≤ ck_dg n x ∧ ck_dg n x ≤ 9
  | 0, x => by rw [ck_dg]; omega
  | n + 1, x => by rw [ck_dg]; exact ck_dgb n _
