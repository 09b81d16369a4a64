/-! ===== the reference's reader: where the machine comes to ===== -/
theorem M2_reader {g : ch_G} {A R : Nat} (hC : ck_Cx g A R) {d : Nat} {K : Option ck_V → ck_W → Prop} {w : ck_W} {b : Int → Int} {s0 : ck_W} (hI : rm_I A R w) (hB : tp b w) (hs : p_0 s0) (h4 : w 77 0 = 4 → K (some (.inl (-1))) w) (h : ¬ w 77 0 = 4 → ∀ v w' f z, rm_I A R w' → rm_fr w w' → w' 78 = w 78 → p_O b 0 s0 f (w' 76 18) z → w' 76 17 = f → w' 76 16 = 0 → (∀ j, j < 800 * w 77 0 → w' 79 j = w 79 j) → ((¬ f = 0 ∧ v = -1 ∧ w' 77 = w 77) ∨ (f = 0 ∧ v = w 77 0 ∧ w' 77 = rm_u (rm_u (w 77) (1260 + w 77 0) 0) 0 (w 77 0 + 1) ∧ pX (800 * w 77 0) z w')) → K (some (.inl v)) w') : ck_Ex (ch_C g A R) (d + 10) mX12_reader [.inr (.inr 76)] w K := by
  have f0 := rm_c0 hI.2.2.2.1
  have t0 := hI.2.2.2.2.2.2.1
  refine e_X12_reader hC ⟨fun z => ?_, fun z => h4 z⟩
  refine S2_X12_readText hC hI (by omega) hB hs (fun v w2 p bf t => ⟨_, rfl, fun _ => ?_⟩)
  have e77 := p.1 77 (by decide) (by decide) (by decide)
  have e78 := p.1 78 (by decide) (by decide) (by decide)
  have old : rm_T (w2 79) (w 77 0) := rm_T_c hI.2.2.2.2.2.2.2.2 p.2.2.1
  have e22 := p.2.2.2 t0.2
  -- the fields anew
  have fld : ∀ (a b : Int) (j : Int), j < 16 → (ck_up (ck_up (ck_up w2 76 17 a) 76 18 b) 76 16 0) 76 j = w 76 j := fun a b j hj => by rw [ck_up_nj (by omega), ck_up_nj (by omega), ck_up_nj (by omega)]; exact p.2.1 j (by omega)
  have f16 : ∀ (a b : Int), (ck_up (ck_up (ck_up w2 76 17 a) 76 18 b) 76 16 0) 76 16 = 0 := fun a b => ck_up_eq
  have fhi : ∀ (a b : Int) (j : Int), 19 ≤ j → (ck_up (ck_up (ck_up w2 76 17 a) 76 18 b) 76 16 0) 76 j = w2 76 j := fun a b j hj => by rw [ck_up_nj (by omega), ck_up_nj (by omega), ck_up_nj (by omega)]
  have f17 : ∀ (a b : Int), (ck_up (ck_up (ck_up w2 76 17 a) 76 18 b) 76 16 0) 76 17 = a := fun a b => by rw [ck_up_nj (by decide), ck_up_nj (by decide), ck_up_eq]
  have f18 : ∀ (a b : Int), (ck_up (ck_up (ck_up w2 76 17 a) 76 18 b) 76 16 0) 76 18 = b := fun a b => by rw [ck_up_nj (by decide), ck_up_eq]
  have f22 : ∀ (a b : Int), 0 ≤ (ck_up (ck_up (ck_up w2 76 17 a) 76 18 b) 76 16 0) 76 22 := fun a b => by rw [ck_up_nj (by decide), ck_up_nj (by decide), ck_up_nj (by decide)]; exact e22
  have fot : ∀ (a b : Int) (k : Nat), k ≠ 76 → (ck_up (ck_up (ck_up w2 76 17 a) 76 18 b) 76 16 0) k = w2 k := fun a b k hk => by rw [ck_up_ne hk, ck_up_ne hk, ck_up_ne hk]
  obtain ⟨ia, ib, ic, ie, if', ig, ik, il, im⟩ := hI
  refine ⟨fun e => ⟨fun e' => absurd e' e, fun _ => ?_⟩, fun e => ⟨fun _ => ?_, fun e' => absurd e e'⟩⟩
  · have fl := fld v (w2 76 20)
    have g16 := f16 v (w2 76 20)
    have g22 := f22 v (w2 76 20)
    have ot := fot v (w2 76 20)
    have g17 := f17 v (w2 76 20)
    have g18 := f18 v (w2 76 20)
    obtain ⟨z0, hz0⟩ := bf e
    generalize (ck_up (ck_up (ck_up w2 76 17 v) 76 18 (w2 76 20)) 76 16 0) = U at *
    have o77 : U 77 = w 77 := (ot 77 (by decide)).trans e77
    have o78 : U 78 = w 78 := (ot 78 (by decide)).trans e78
    refine h z (-1) U v z0 ⟨?_, ?_, ?_, ?_, ?_, ?_, ⟨?_, g22⟩, ?_, ?_⟩ (fun k hk => (ot k (by omega)).trans (p.1 k (by omega) (by omega) (by omega))) o78 (by rw [g18]; exact hz0) g17 g16 (fun j hj => by rw [ot 79 (by decide)]; exact p.2.2.1 j hj) (Or.inl ⟨e, rfl, o77⟩)
    · rw [fl 0 (by decide)]; exact ia
    · rw [fl 1 (by decide)]; exact ib
    · rw [fl 2 (by decide)]; exact ic
    · rw [o77]; exact ie
    · rw [o78]; exact if'
    · rw [o77, o78]; exact ig
    · omega
    · omega
    · rw [ot 79 (by decide), o77]; exact old
  · have fl := fld v (-1)
    have g16 := f16 v (-1)
    have g22 := f22 v (-1)
    have ot := fot v (-1)
    have g17 := f17 v (-1)
    have g18 := f18 v (-1)
    have ghi := fhi v (-1)
    obtain ⟨tok, z0, hz0, hz1⟩ := t e
    generalize (ck_up (ck_up (ck_up w2 76 17 v) 76 18 (-1)) 76 16 0) = U at *
    have o77 : U 77 = w 77 := (ot 77 (by decide)).trans e77
    have o78 : U 78 = w 78 := (ot 78 (by decide)).trans e78
    rw [e77]
    refine ⟨by omega, fun x ex => ?_⟩
    rw [ck_up_nj (by omega), o77] at ex
    subst ex
    rw [show w 77 0 + 1 - 1 = w 77 0 by omega]
    have row : (ck_up (ck_up U 77 (1260 + w 77 0) 0) 77 0 (w 77 0 + 1)) 77 = rm_u (rm_u (w 77) (1260 + w 77 0) 0) 0 (w 77 0 + 1) := by rw [ck_up_row, ck_up_row, o77]
    have oth : ∀ k, k ≠ 77 → (ck_up (ck_up U 77 (1260 + w 77 0) 0) 77 0 (w 77 0 + 1)) k = U k := fun k hk => by rw [ck_up_ne hk, ck_up_ne hk]
    have b1 := rh_learnt (A := A) (R := R) (r := w 77 0) (by omega) (by omega)
    have b2 : rm_lo 0 = 0 ∧ rm_hi A R 0 = 4 := ⟨rfl, rfl⟩
    have good : rm_A A R (rm_u (rm_u (w 77) (1260 + w 77 0) 0) 0 (w 77 0 + 1)) := rm_up (rm_up ie (by omega) (by omega) (by omega) (by omega) (by omega)) (by omega) (by omega) (by omega) (by omega) (by omega)
    generalize (ck_up (ck_up U 77 (1260 + w 77 0) 0) 77 0 (w 77 0 + 1)) = V at *
    refine ⟨by constructor <;> omega, by constructor <;> omega, h z (w 77 0) V 0 z0 ⟨?_, ?_, ?_, ?_, ?_, ?_, ⟨?_, ?_⟩, ?_, ?_⟩ (fun k hk => (oth k (by omega)).trans ((ot k (by omega)).trans (p.1 k (by omega) (by omega) (by omega)))) ((oth 78 (by decide)).trans o78) (by rw [oth 76 (by decide), g18]; exact hz0) (by rw [oth 76 (by decide), g17]; exact e) (by rw [oth 76 (by decide)]; exact g16) (fun j hj => by rw [oth 79 (by decide), ot 79 (by decide)]; exact p.2.2.1 j hj) (Or.inr ⟨rfl, rfl, row, by unfold pX; rw [oth 76 (by decide), oth 79 (by decide), ot 79 (by decide), ghi 20 (by decide), ghi 26 (by decide), ghi 30 (by decide)]; exact hz1⟩)⟩
    · rw [oth 76 (by decide), fl 0 (by decide)]; exact ia
    · rw [oth 76 (by decide), fl 1 (by decide)]; exact ib
    · rw [oth 76 (by decide), fl 2 (by decide)]; exact ic
    · rw [row]; exact good
    · rw [oth 78 (by decide), o78]; exact if'
    · rw [row, rm_u_eq, oth 78 (by decide), o78]; omega
    · rw [oth 76 (by decide)]; omega
    · rw [oth 76 (by decide)]; omega
    · rw [oth 76 (by decide)]; omega
    · rw [row, rm_u_eq, oth 79 (by decide), ot 79 (by decide)]
      intro r r0 r1
      by_cases q : r = w 77 0
      · rw [q]; exact tok
      · exact old r r0 (by omega)
