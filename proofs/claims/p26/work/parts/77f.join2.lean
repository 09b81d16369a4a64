/-! ===== the reference: words joined, exact ===== -/
theorem cb_bw_fr {f g : Int → Int} : ∀ n : Nat, (∀ k : Int, 0 ≤ k → k < n → f k = g k) → cb_bw f n = cb_bw g n
  | 0, _ => rfl
  | n + 1, h => by
    have i := cb_bw_fr n (fun k a b => h k a (by omega))
    have b := cb_bwb g n
    rw [cb_bw, cb_bw, i, h n (by omega) (by omega)]
    rcases b with e | e
    · rw [if_pos e, if_pos e]
    · rw [h _ e.1 (by omega)]
theorem rm_bx_c {w u : ck_W} (e76 : u 76 = w 76) (e77 : u 77 = w 77) (e83 : u 83 = w 83) (z p : Int) : rm_bx u z p ↔ rm_bx w z p := by
  unfold rm_bx rm_th
  rw [e76, e77, e83]
theorem rm_bx_b {A R : Nat} {g : ch_G} (hC : ck_Cx g A R) {w : ck_W} (hI : rm_I A R w) {z p : Int} (h : rm_bx w z p) : 0 ≤ p ∧ p ≤ 21 := by
  have z0 := h.1
  have t := (h.2.2 z (by omega) (by omega)).1
  have pb := rm_pb hC hI (z := z) (by omega) (by omega)
  have p0 := h.2.1
  omega
theorem rm_bx_w {A R : Nat} {g : ch_G} (hC : ck_Cx g A R) {w : ck_W} (hI : rm_I A R w) {z p k : Int} (hp : ck_i p) (hk : 0 ≤ k ∧ k ≤ 6) : (rm_bx w z (ck_wr (p + k)) ↔ rm_bx w z (p + k)) ∧ (rm_bx w z (p + k) → ck_wr (p + k) = p + k) := by
  rcases ck_wr_add (a := p) (b := k) hp (by omega) with c | c | c
  · rw [c]; exact ⟨Iff.rfl, fun _ => rfl⟩
  · refine ⟨⟨fun x => ?_, fun x => ?_⟩, fun x => ?_⟩
    · have := rm_bx_b hC hI x; omega
    · have := rm_bx_b hC hI x; omega
    · have := rm_bx_b hC hI x; omega
  · refine ⟨⟨fun x => ?_, fun x => ?_⟩, fun x => ?_⟩
    · have := rm_bx_b hC hI x; omega
    · have := rm_bx_b hC hI x; omega
    · have := rm_bx_b hC hI x; omega
/-- what the three boxes show -/
def rs_bb (A R : Nat) (w : ck_W) (cd : Int → Int) (n : Nat) (z p : Int) (b : Int → Int) : Prop := ∀ i, 0 ≤ i → i < 3 → (rm_bx w z (p + 3 * i) ∧ (0 ≤ b i ∧ b i < 512) ∧ b i = cb_or (fun x y => rs_ik A R (w 77) (w 85) cd n (z + x) (p + 3 * i + y)) 9) ∨ (¬ rm_bx w z (p + 3 * i) ∧ b i = -1)
/-- the chance of a word: b what the boxes show -/
def rs_wl (f b : Int → Int) (o : Int) : Nat → Int → Int → Int
  | 0, _, x => x
  | n + 1, i, x => if x ≤ 0 then x else rs_wl f b o n (i + 1) (if 0 ≤ b i then x * rs_ft f (b i) (f (1300 + 4 * o + i)) else -1)
def rs_wx (f b : Int → Int) (o : Int) : Int := rs_wl f b o (rm_ln f o).toNat 0 (f (1300 + 4 * o + 3) * ck_pw (if f 8 ≤ f 9 then f 9 else f 8) (9 * (3 - rm_ln f o)))
theorem rs_wl_n {f b : Int → Int} {o : Int} : ∀ (n : Nat) (i x : Int), x ≤ 0 → rs_wl f b o n i x = x
  | 0, _, _, _ => rfl
  | n + 1, i, x, h => by rw [rs_wl, if_pos h]
theorem S2_X12_join {g : ch_G} {A R : Nat} (hC : ck_Cx g A R) {d : Nat} {K : Option ck_V → ck_W → Prop} {w : ck_W} {a1 a2 a3 e : Int} {cd : Int → Int} (hs : rm_st A R w w) (h0 : 0 ≤ a1 ∧ a1 < w 77 0) (hi3 : ck_i a3) (hX : cX (800 * a1) (w 79 (800 * a1)) e cd (w 79))
    (h : ∀ w', rm_st A R w w' → (∀ k, k ≠ 91 → k ≠ 92 → k ≠ 93 → k ≠ 94 → k ≠ 95 → w' k = w k) → rs_bb A R w cd (w 79 (800 * a1) + e).toNat a2 a3 (w' 94) → (∀ k, 0 ≤ k → k < w 77 5 → w' 95 k = rs_wx (w 77) (w' 94) k) → rm_wc (w 77 5) w' → K (some (.inl (cb_bw (w' 95) (w 77 5).toNat))) w') : ck_Ex (ch_C g A R) (d + 6) mX12_join [.inr (.inr 76), .inl a1, .inl a2, .inl a3] w K := by
  have hI := hs.2.1
  have f0 := rm_c0 hI.2.2.2.1
  have st : ∀ u : ck_W, (∀ k, k ≠ 91 → k ≠ 92 → k ≠ 93 → k ≠ 94 → k ≠ 95 → u k = w k) → rm_st A R w u ∧ u 77 = w 77 := fun u b => by
    have q : rm_q w u := ⟨b 76 (by decide) (by decide) (by decide) (by decide) (by decide), b 77 (by decide) (by decide) (by decide) (by decide) (by decide), b 78 (by decide) (by decide) (by decide) (by decide) (by decide), b 79 (by decide) (by decide) (by decide) (by decide) (by decide), fun k hk => b k (by omega) (by omega) (by omega) (by omega) (by omega)⟩
    exact ⟨⟨q, rm_I_q hI q, rm_wa_c hs.2.2 q.1 q.2.1 (b 83 (by decide) (by decide) (by decide) (by decide) (by decide)) (b 85 (by decide) (by decide) (by decide) (by decide) (by decide))⟩, q.2.1⟩
  have l2 : ∀ (m k : Nat) (u : ck_W), w 77 5 - (k : Int) = m → (∀ k, k ≠ 91 → k ≠ 92 → k ≠ 93 → k ≠ 94 → k ≠ 95 → u k = w k) → rm_wc (k : Int) u → rs_bb A R w cd (w 79 (800 * a1) + e).toNat a2 a3 (u 94) → (∀ j, 0 ≤ j → j < (k : Int) → u 95 j = rs_wx (w 77) (u 94) j) → ck_At (ch_C g A R) (d + 6) mX12_join K 58 [some (.inr (.inr 76)), none, none, none, some (.inl (cb_bw (u 95) k)), some (.inl (k : Int)), none, none] [] u := by
    intro m
    induction m with
    | zero =>
      intro k u q1 q4 q5 q6 q8
      obtain ⟨su, e77⟩ := st u q4
      refine r_X12_join_58 hC ⟨fun _ => ?_, fun z => absurd (by rw [e77]; omega) z⟩
      have kk := h u su q4 q6 (fun j j0 j1 => q8 j j0 (by omega)) (by rw [show w 77 5 = (k : Int) by omega]; exact q5)
      rw [show (w 77 5).toNat = k by omega] at kk
      exact kk
    | succ m ih =>
      intro k u q1 q4 q5 q6 q8
      obtain ⟨su, e77⟩ := st u q4
      have bd : ∀ i, 0 ≤ i → i < 3 → -1 ≤ u 94 i ∧ u 94 i < 512 := fun i i0 i1 => by
        rcases q6 i i0 i1 with x | x
        · have := x.2.1; omega
        · have := x.2; omega
      have lb := rm_lnb (w 77) k
      have wb := rm_word3 hI.2.2.2.1 (k := (k : Int)) (by omega) (by omega)
      have wb1 := hI.2.2.2.1.2.2 (k : Int) (by omega) (by omega)
      rw [show (1303 + 4 * (k : Int) : Int) = 1300 + 4 * (k : Int) + 3 by omega] at wb1
      -- the end of a word
      have l4 : ∀ (u' : ck_W), (∀ k, k ≠ 91 → k ≠ 92 → k ≠ 93 → k ≠ 94 → k ≠ 95 → u' k = w k) → (∀ j, j ≠ (k : Int) → u' 95 j = u 95 j) → u' 94 = u 94 → (u' 95 k = -1 ∨ (1 ≤ u' 95 k ∧ u' 95 k ≤ 754934151013713)) → u' 95 k = rs_wx (w 77) (u 94) k → ck_At (ch_C g A R) (d + 6) mX12_join K 232 [some (.inr (.inr 76)), none, none, none, some (.inl (cb_bw (u 95) k)), some (.inl (k : Int)), none, none] [] u' := by
        intro u' b1 b2 b3 b4 b5
        have wc' : rm_wc ((k + 1 : Nat) : Int) u' := fun j j0 j1 => by
          by_cases e : j = k
          · rw [e]; exact b4
          · rw [b2 j e]; exact q5 j j0 (by omega)
        have bwe : cb_bw (u 95) k = cb_bw (u' 95) k := cb_bw_fr k (fun j j0 j1 => (b2 j (by omega)).symm)
        have nx : ∀ x, x = cb_bw (u' 95) (k + 1) → ck_At (ch_C g A R) (d + 6) mX12_join K 58 [some (.inr (.inr 76)), none, none, none, some (.inl x), some (.inl ((k : Int) + 1)), none, none] [] u' := by
          intro x ex
          rw [ex, show (k : Int) + 1 = ((k + 1 : Nat) : Int) by omega]
          refine ih (k + 1) u' (by omega) b1 wc' (by rw [b3]; exact q6) (fun j j0 j1 => ?_)
          rw [b3]
          by_cases e : j = k
          · rw [e]; exact b5
          · rw [b2 j e]; exact q8 j j0 (by omega)
        have bb := cb_bwb (u' 95) k
        have eb : cb_bw (u' 95) (k + 1) = if u' 95 k ≤ 0 then cb_bw (u' 95) k else if cb_bw (u' 95) k = -1 then (k : Int) else if u' 95 k ≤ u' 95 (cb_bw (u' 95) k) then cb_bw (u' 95) k else (k : Int) := rfl
        rw [bwe]
        refine r_X12_join_232 hC ⟨by omega, fun z => ⟨by constructor <;> omega, nx _ ?_⟩, fun z => ⟨fun z2 => ⟨by constructor <;> omega, nx _ ?_⟩, fun z2 => ⟨by omega, fun z3 => ⟨by constructor <;> omega, nx _ ?_⟩, fun z3 => ⟨by constructor <;> omega, nx _ ?_⟩⟩⟩⟩
        · rw [eb, if_pos z]
        · rw [eb, if_neg z, if_pos (by omega)]
        · rw [eb, if_neg z, if_neg (by omega), if_pos z3]
        · rw [eb, if_neg z, if_neg (by omega), if_neg z3]
      -- the letters of a word
      have l3 : ∀ (m2 : Nat) (a7 : Int) (u' : ck_W), rm_ln (w 77) k - a7 = m2 → 0 ≤ a7 → (∀ k, k ≠ 91 → k ≠ 92 → k ≠ 93 → k ≠ 94 → k ≠ 95 → u' k = w k) → (∀ j, j ≠ (k : Int) → u' 95 j = u 95 j) → u' 94 = u 94 → (u' 95 k = -1 ∨ (1 ≤ u' 95 k ∧ u' 95 k ≤ 99 * ck_pw 19683 (3 - rm_ln (w 77) k + a7))) → rs_wl (w 77) (u 94) k m2 a7 (u' 95 k) = rs_wx (w 77) (u 94) k → ck_At (ch_C g A R) (d + 6) mX12_join K 149 [some (.inr (.inr 76)), none, none, none, some (.inl (cb_bw (u 95) k)), some (.inl (k : Int)), some (.inl (rm_ln (w 77) k)), some (.inl a7)] [] u' := by
        intro m2
        have top : ∀ a7 (u' : ck_W), (0 ≤ a7 ∧ a7 ≤ rm_ln (w 77) k) → (u' 95 k = -1 ∨ (1 ≤ u' 95 k ∧ u' 95 k ≤ 99 * ck_pw 19683 (3 - rm_ln (w 77) k + a7))) → (u' 95 k = -1 ∨ (1 ≤ u' 95 k ∧ u' 95 k ≤ 754934151013713)) := fun a7 u' x y => by
          have := ck_tri lb x
          omega
        induction m2 with
        | zero =>
          intro a7 u' b1 b2 b3 b4 b5 b6 b7
          rw [rs_wl] at b7
          exact r_X12_join_149 hC ⟨fun _ => l4 u' b3 b4 b5 (top a7 u' (by omega) b6) b7, fun z => absurd (by omega) z⟩
        | succ m2 ih2 =>
          intro a7 u' b1 b2 b3 b4 b5 b6 b7
          obtain ⟨su', e77'⟩ := st u' b3
          have tb := top a7 u' (by omega) b6
          rw [rs_wl] at b7
          refine r_X12_join_149 hC ⟨fun z => absurd z (by omega), fun _ => ⟨by omega, fun z => l4 u' b3 b4 b5 tb (by rw [if_pos z] at b7; exact b7), fun z => ⟨by omega, fun y => ⟨by omega, ?_⟩, fun y => ⟨by constructor <;> omega, ih2 _ _ (by omega) (by omega) (fun k x1 x2 x3 x4 x5 => by rw [ck_up_ne x5]; exact b3 k x1 x2 x3 x4 x5) (fun j hj => by rw [ck_up_nj hj]; exact b4 j hj) (by rw [ck_up_ne (by decide)]; exact b5) (Or.inl ck_up_eq) ?_⟩⟩⟩⟩
          · rw [b5] at y
            rw [if_neg z, if_pos y] at b7
            have ub := bd a7 b2 (by omega)
            have lt : 0 ≤ w 77 (1300 + 4 * (k : Int) + a7) ∧ w 77 (1300 + 4 * (k : Int) + a7) < 12 := by
              have w0 := rm_word0 hI.2.2.2.1 (k := (k : Int)) (by omega) (by omega)
              have w1 := rm_word1 hI.2.2.2.1 (k := (k : Int)) (by omega) (by omega)
              have w2 := rm_word2 hI.2.2.2.1 (k := (k : Int)) (by omega) (by omega)
              unfold rm_ln at b1
              rcases (by omega : a7 = 0 ∨ a7 = 1 ∨ a7 = 2) with e | e | e
              · subst e; rw [Int.add_zero]; omega
              · subst e
                by_cases x : 0 ≤ w 77 (1300 + 4 * (k : Int) + 1)
                · omega
                · rw [if_neg x] at b1; omega
              · subst e
                by_cases x : 0 ≤ w 77 (1300 + 4 * (k : Int) + 1)
                · rw [if_pos x] at b1
                  by_cases x2 : 0 ≤ w 77 (1300 + 4 * (k : Int) + 2)
                  · omega
                  · rw [if_neg x2] at b1; omega
                · rw [if_neg x] at b1; omega
            rw [e77', b5]
            refine S2_X12_fitting hC su'.2.1 (by omega) lt (fun b => ⟨_, rfl, fun _ => ?_⟩)
            rw [e77'] at b ⊢
            generalize rs_ft (w 77) (u 94 a7) (w 77 (1300 + 4 * (k : Int) + a7)) = v at *
            have cur : 1 ≤ u' 95 k ∧ u' 95 k ≤ 99 * ck_pw 19683 (3 - rm_ln (w 77) k + a7) := by omega
            have mb := ck_mlb (x := u' 95 k) (y := v) (a := 99 * ck_pw 19683 (3 - rm_ln (w 77) k + a7)) (b := 19683) (by omega) (by omega)
            have mp := ck_mlp (x := u' 95 k) (y := v) cur.1 b.1
            have pe : ck_pw 19683 (3 - rm_ln (w 77) k + (a7 + 1)) = ck_pw 19683 (3 - rm_ln (w 77) k + a7) * 19683 := by rw [← ck_pw_s (by omega), show 3 - rm_ln (w 77) k + (a7 + 1) = 3 - rm_ln (w 77) k + a7 + 1 by omega]
            have t2 := ck_tri (n := rm_ln (w 77) k) (k := a7 + 1) lb (by omega)
            rw [pe] at t2
            have le2 : u' 95 k * v ≤ 99 * ck_pw 19683 (3 - rm_ln (w 77) k + (a7 + 1)) := by rw [pe, ← Int.mul_assoc]; exact mb.2
            refine ⟨?_, by constructor <;> omega, ih2 _ _ (by omega) (by omega) (fun k x1 x2 x3 x4 x5 => by rw [ck_up_ne x5]; exact b3 k x1 x2 x3 x4 x5) (fun j hj => by rw [ck_up_nj hj]; exact b4 j hj) (by rw [ck_up_ne (by decide)]; exact b5) (Or.inr (by rw [ck_up_eq]; exact ⟨mp, le2⟩)) (by rw [ck_up_eq]; exact b7)⟩
            rw [pe] at le2; constructor <;> omega
          · rw [b5] at y
            rw [if_neg z, if_neg y] at b7
            rw [ck_up_eq]
            exact b7
      refine r_X12_join_58 hC ⟨fun z => absurd z (by rw [e77]; omega), fun _ => S_X12_lengthOf hC (by omega) ⟨_, rfl, fun _ => ?_⟩⟩
      dsimp only
      rw [e77]
      have fin : ∀ b, (1 ≤ b ∧ b ≤ 3) → b = (if w 77 8 ≤ w 77 9 then w 77 9 else w 77 8) → ck_i (9 * (3 - rm_ln (w 77) k)) ∧ ((0 ≤ b) ∧ ((0 ≤ (9 * (3 - rm_ln (w 77) k))) ∧ (((b ≤ 3 ∧ (9 * (3 - rm_ln (w 77) k)) ≤ 27) ∨ (b ≤ 10 ∧ (9 * (3 - rm_ln (w 77) k)) ≤ 12)) ∧ (ck_l ((w 77 ((1300 + (4 * (k : Int))) + 3)) * (ck_pw b (9 * (3 - rm_ln (w 77) k)))) ∧ ((0 ≤ (k : Int) ∧ (k : Int) < 12) ∧ (ck_At (ch_C g A R) (d + 6) mX12_join K 149 [some (.inr (.inr 76)), none, none, none, some (.inl (cb_bw (u 95) k)), some (.inl (k : Int)), some (.inl (rm_ln (w 77) k)), some (.inl 0)] [] (ck_up u 95 (k : Int) ((w 77 ((1300 + (4 * (k : Int))) + 3)) * (ck_pw b (9 * (3 - rm_ln (w 77) k)))))))))))  := fun b hb eb => by
        have pb := ck_p27 hb lb
        have pt := ck_tri (n := rm_ln (w 77) k) (k := 0) lb (by omega)
        rw [Int.add_zero] at pt
        have mb := ck_mlb (x := w 77 (1300 + 4 * (k : Int) + 3)) (y := ck_pw b (9 * (3 - rm_ln (w 77) k))) (a := 99) (b := ck_pw 19683 (3 - rm_ln (w 77) k)) wb (by omega)
        have mp := ck_mlp (x := w 77 (1300 + 4 * (k : Int) + 3)) (y := ck_pw b (9 * (3 - rm_ln (w 77) k))) wb1 pb.1
        refine ⟨by constructor <;> omega, by omega, by omega, by omega, by constructor <;> omega, by omega, l3 (rm_ln (w 77) k).toNat 0 _ (by omega) (by omega) (fun k x1 x2 x3 x4 x5 => by rw [ck_up_ne x5]; exact q4 k x1 x2 x3 x4 x5) (fun j hj => by rw [ck_up_nj hj]) (by rw [ck_up_ne (by decide)]) (Or.inr (by rw [ck_up_eq, Int.add_zero]; exact ⟨mp, mb.2⟩)) ?_⟩
        rw [ck_up_eq, eb]
        rfl
      exact ⟨by omega, fun z => fin _ (by omega) (by rw [if_pos z]), fun z => fin _ (by omega) (by rw [if_neg z])⟩
  have l1 : ∀ (m : Nat) (a4 : Int) (u : ck_W), 3 - a4 = m → 0 ≤ a4 → (∀ k, k ≠ 91 → k ≠ 92 → k ≠ 93 → k ≠ 94 → k ≠ 95 → u k = w k) → (∀ i, 0 ≤ i → i < a4 → (rm_bx w a2 (a3 + 3 * i) ∧ (0 ≤ u 94 i ∧ u 94 i < 512) ∧ u 94 i = cb_or (fun x y => rs_ik A R (w 77) (w 85) cd (w 79 (800 * a1) + e).toNat (a2 + x) (a3 + 3 * i + y)) 9) ∨ (¬ rm_bx w a2 (a3 + 3 * i) ∧ u 94 i = -1)) → ck_At (ch_C g A R) (d + 6) mX12_join K 3 [some (.inr (.inr 76)), some (.inl a1), some (.inl a2), some (.inl a3), some (.inl a4), none, none, none] [] u := by
    intro m
    induction m with
    | zero =>
      intro a4 u q1 q2 q3 q4
      refine r_X12_join_3 hC ⟨fun _ => ?_, fun z => absurd (by omega) z⟩
      have l := l2 (w 77 5).toNat 0 u (by omega) q3 (fun k k0 k1 => by omega) (fun i i0 i1 => q4 i i0 (by omega)) (fun j j0 j1 => by omega)
      exact l
    | succ m ih =>
      intro a4 u q1 q2 q3 q4
      obtain ⟨su, e77⟩ := st u q3
      have e79 := q3 79 (by decide) (by decide) (by decide) (by decide) (by decide)
      have e85 := q3 85 (by decide) (by decide) (by decide) (by decide) (by decide)
      have bc := rm_bx_c (q3 76 (by decide) (by decide) (by decide) (by decide) (by decide)) e77 (q3 83 (by decide) (by decide) (by decide) (by decide) (by decide)) a2
      have bw := rm_bx_w hC hI (z := a2) (p := a3) (k := 3 * a4) hi3 (by omega)
      have nx : ∀ v (u' : ck_W), (∀ k, k ≠ 91 → k ≠ 92 → k ≠ 93 → u' k = u k) → ((rm_bx w a2 (a3 + 3 * a4) ∧ (0 ≤ v ∧ v < 512) ∧ v = cb_or (fun x y => rs_ik A R (w 77) (w 85) cd (w 79 (800 * a1) + e).toNat (a2 + x) (a3 + 3 * a4 + y)) 9) ∨ (¬ rm_bx w a2 (a3 + 3 * a4) ∧ v = -1)) → (0 ≤ a4 ∧ a4 < 3) ∧ ck_i (a4 + 1) ∧ ck_At (ch_C g A R) (d + 6) mX12_join K 3 [some (.inr (.inr 76)), some (.inl a1), some (.inl a2), some (.inl a3), some (.inl (a4 + 1)), none, none, none] [] (ck_up u' 94 a4 v) := by
        intro v u' b1 b2
        refine ⟨by omega, by constructor <;> omega, ih _ _ (by omega) (by omega) (fun k x1 x2 x3 x4 x5 => by rw [ck_up_ne x4, b1 k x1 x2 x3]; exact q3 k x1 x2 x3 x4 x5) (fun i i0 i1 => ?_)⟩
        by_cases e : i = a4
        · rw [e, ck_up_eq]; exact b2
        · rw [ck_up_nj e, b1 94 (by decide) (by decide) (by decide)]; exact q4 i i0 (by omega)
      refine r_X12_join_3 hC ⟨fun z => absurd z (by omega), fun _ => S2_X12_isBox hC su.2.1 (ck_rng _) (fun bx => ⟨_, rfl, fun _ => ⟨fun z => absurd z (by decide), fun _ => ?_⟩⟩) (fun nb => ⟨_, rfl, fun _ => ⟨fun _ => nx (-1) u (fun _ _ _ _ => rfl) (Or.inr ⟨fun x => nb ((bc _).2 (bw.1.2 x)), rfl⟩), fun z => absurd rfl z⟩⟩)⟩
      have bx' : rm_bx w a2 (a3 + 3 * a4) := bw.1.1 ((bc _).1 bx)
      rw [bw.2 bx']
      refine S2_X12_bitsAt (e := e) (cd := cd) hC ⟨rm_q_rf, su.2⟩ (by rw [e77]; exact h0) ((bc _).2 bx') (by rw [e79]; exact hX) (fun w' b2 b1 => ⟨_, rfl, fun _ => ?_⟩)
      rw [e77, e79, e85] at b1 ⊢
      exact nx _ w' b2 (Or.inl ⟨bx', b1, rfl⟩)
  exact e_X12_join hC (l1 3 0 w (by omega) (by omega) (fun _ _ _ _ _ _ => rfl) (fun k k0 k1 => by omega))
/-- the chance of a word in thousandths: c the chances of all n -/
def rs_wo (n : Int) (c : Int → Int) (k : Int) : Int := if 0 ≤ c k then (1000 * c k).tdiv (cs_sm (fun j => if c j ≤ 0 then 0 else c j) n.toNat) else -1
theorem S2_X12_wordOdds {g : ch_G} {A R : Nat} (hC : ck_Cx g A R) {d : Nat} {K : Option ck_V → ck_W → Prop} {w : ck_W} {a1 : Int} (hI : rm_I A R w) (h1 : 0 ≤ a1 ∧ a1 < w 77 5) (hc : rm_wc (w 77 5) w) (h : (-1 ≤ rs_wo (w 77 5) (w 95) a1 ∧ rs_wo (w 77 5) (w 95) a1 ≤ 1000) → K (some (.inl (rs_wo (w 77 5) (w 95) a1))) w) : ck_Ex (ch_C g A R) d mX12_wordOdds [.inr (.inr 76), .inl a1] w K := by
  have f0 := rm_c0 hI.2.2.2.1
  unfold rs_wo at h
  generalize hF : (fun j => if w 95 j ≤ 0 then 0 else w 95 j) = F at h
  have l : ∀ (m k : Nat), w 77 5 - (k : Int) = m → (0 ≤ cs_sm F k ∧ cs_sm F k ≤ 754934151013713 * (k : Int)) → (a1 < (k : Int) → 0 ≤ w 95 a1 → w 95 a1 ≤ cs_sm F k) → ck_At (ch_C g A R) d mX12_wordOdds K 5 [some (.inr (.inr 76)), some (.inl a1), some (.inr (.inl (cs_sm F k))), none, some (.inl (k : Int))] [] w := by
    intro m
    induction m with
    | zero =>
      intro k q1 q3 q4
      have c1 := hc a1 h1.1 h1.2
      rw [show (w 77 5).toNat = k by omega] at h
      refine r_X12_wordOdds_5 hC ⟨fun _ => ⟨by omega, fun z => ?_, fun z => by rw [if_neg z] at h; exact h (by omega)⟩, fun z => absurd (by omega) z⟩
      have le := q4 (by omega) z
      rw [if_pos z] at h
      have tb : 0 ≤ (1000 * w 95 a1).tdiv (cs_sm F k) ∧ (1000 * w 95 a1).tdiv (cs_sm F k) ≤ 1000 := by
        rw [Int.tdiv_eq_ediv_of_nonneg (by omega)]
        refine ⟨Int.ediv_nonneg (by omega) (by omega), ?_⟩
        have : (1000 * w 95 a1) / cs_sm F k ≤ (1000 * cs_sm F k) / cs_sm F k := Int.ediv_le_ediv (by omega) (by omega)
        rw [Int.mul_ediv_cancel _ (by omega)] at this
        exact this
      exact ⟨by constructor <;> omega, by omega, by constructor <;> omega, h (by omega)⟩
    | succ m ih =>
      intro k q1 q3 q4
      have c4 := hc k (by omega) (by omega)
      have es : cs_sm F (k + 1) = cs_sm F k + F k := rfl
      have eF : F k = if w 95 k ≤ 0 then 0 else w 95 k := by rw [← hF]
      have nx : ∀ x, x = cs_sm F (k + 1) → (0 ≤ x ∧ x ≤ 754934151013713 * ((k : Int) + 1)) → (a1 < (k : Int) + 1 → 0 ≤ w 95 a1 → w 95 a1 ≤ x) → ck_At (ch_C g A R) d mX12_wordOdds K 5 [some (.inr (.inr 76)), some (.inl a1), some (.inr (.inl x)), none, some (.inl ((k : Int) + 1))] [] w := by
        intro x ex x1 x2
        have i := ih (k + 1) (by omega) (by rw [← ex, show ((k + 1 : Nat) : Int) = (k : Int) + 1 by omega]; exact x1) (fun y y2 => by rw [← ex]; exact x2 (by omega) y2)
        rw [← ex, show ((k + 1 : Nat) : Int) = (k : Int) + 1 by omega] at i
        exact i
      refine r_X12_wordOdds_5 hC ⟨fun z => absurd z (by omega), fun _ => ⟨by omega, fun z => ⟨by constructor <;> omega, nx _ (by rw [es, eF, if_pos z]; omega) (by omega) (fun y y2 => ?_)⟩, fun z => ⟨by constructor <;> omega, by constructor <;> omega, nx _ (by rw [es, eF, if_neg z]) (by omega) (fun y y2 => ?_)⟩⟩⟩
      · by_cases e : a1 = k
        · rw [e] at y2 ⊢; omega
        · exact q4 (by omega) y2
      · by_cases e : a1 = k
        · rw [e]; omega
        · have := q4 (by omega) y2; omega
  exact e_X12_wordOdds hC (l (w 77 5).toNat 0 (by omega) (by simp [cs_sm]) (fun y => by omega))
/-- what is answered of the word at a place: c the chances of all n -/
def rs_ja (n : Int) (c : Int → Int) (what : Int) : Int := if 0 ≤ cb_bw c n.toNat then (if what = 0 then cb_bw c n.toNat else if what = 1 then rs_wo n c (cb_bw c n.toNat) else rs_wo n c (what - 100)) else -1
theorem M2_joined {g : ch_G} {A R : Nat} (hC : ck_Cx g A R) {d : Nat} {K : Option ck_V → ck_W → Prop} {w : ck_W} {a1 a2 a3 a4 e : Int} {cd : Int → Int} {cp : Int → Int → Int} (hI : rm_I A R w) (hc : rm_cps w cp) (hX : (0 ≤ a1 ∧ a1 < w 77 0) → cX (800 * a1) (w 79 (800 * a1)) e cd (w 79))
    (h1 : ((0 ≤ a1 ∧ a1 < w 77 0) ∧ ((0 ≤ a4 ∧ a4 ≤ 1) ∨ (100 ≤ a4 ∧ a4 < 100 + w 77 5))) → ∀ w1 w', rm_wf w w1 → (∀ z, 0 ≤ z → z ≤ 5 → rm_w2 A R w z (w 77 (10 + z) * A) (cp z) w1) → rm_q w w' → rs_bb A R w1 cd (w 79 (800 * a1) + e).toNat a2 a3 (w' 94) → (∀ k, 0 ≤ k → k < w 77 5 → w' 95 k = rs_wx (w 77) (w' 94) k) → K (some (.inl (rs_ja (w 77 5) (w' 95) a4))) w')
    (h0 : ¬ ((0 ≤ a1 ∧ a1 < w 77 0) ∧ ((0 ≤ a4 ∧ a4 ≤ 1) ∨ (100 ≤ a4 ∧ a4 < 100 + w 77 5))) → K (some (.inl (-1))) w) : ck_Ex (ch_C g A R) (d + 7) mX12_joined [.inr (.inr 76), .inl a1, .inl a2, .inl a3, .inl a4] w K := by
  refine ck_exi (fun ha => ?_)
  have f0 := rm_c0 hI.2.2.2.1
  have i3 : ck_i a3 := ha.2.2.2.1
  have main : ((0 ≤ a1 ∧ a1 < w 77 0) ∧ ((0 ≤ a4 ∧ a4 ≤ 1) ∨ (100 ≤ a4 ∧ a4 < 100 + w 77 5))) → ck_At (ch_C g A R) (d + 7) mX12_joined K 39 [some (.inr (.inr 76)), some (.inl a1), some (.inl a2), some (.inl a3), some (.inl a4), none] [] w := fun cnd => by
    refine r_X12_joined_39 hC (S2_X12_windAll hC hI hc (fun w1 i1 i2 => ⟨rfl, ?_⟩))
    have s1 : rm_st A R w w1 := ⟨rm_q_wf i1, rm_I_q hI (rm_q_wf i1), rm_wa_of hC hI i1 (fun z a b => (i2 z a b).1)⟩
    have e77 := s1.1.2.1
    have e79 := s1.1.2.2.2.1
    refine S2_X12_join (e := e) (cd := cd) hC ⟨rm_q_rf, s1.2⟩ (by rw [e77]; exact cnd.1) i3 (by rw [e79]; exact hX cnd.1) (fun w2 b1 b2 b3 b4 b5 => ⟨_, rfl, fun _ => ?_⟩)
    have q2 := rm_q_tr s1.1 b1.1
    have e772 := q2.2.1
    rw [e79] at b3
    rw [e77] at b4 b5 ⊢
    have k := h1 cnd w1 w2 i1 (fun z a b => (i2 z a b).2) q2 b3 b4
    have bb := cb_bwb (w2 95) (w 77 5).toNat
    unfold rs_ja at k
    generalize cb_bw (w2 95) (w 77 5).toNat = v at *
    have od : ∀ j, (0 ≤ j ∧ j < w 77 5) → K (some (.inl (rs_wo (w 77 5) (w2 95) j))) w2 → ck_CI (ch_C g A R) (d + 6) mX12_wordOdds [.inr (.inr 76), .inl j] w2 (fun v9 w8 => K (some (.inl v9)) w8) := fun j hj kj => S2_X12_wordOdds hC b1.2.1 (by rw [e772]; exact hj) (by rw [e772]; exact b5) (fun _ => ⟨_, rfl, fun _ => by rw [e772]; exact kj⟩)
    refine ⟨fun z => ⟨fun z2 => ⟨fun z3 => ⟨by constructor <;> omega, od _ (by omega) ?_⟩, fun z3 => od _ (by omega) ?_⟩, fun z2 => ?_⟩, fun z => ?_⟩
    · rw [if_pos z, if_neg z2, if_neg z3] at k; exact k
    · rw [if_pos z, if_neg z2, if_pos z3] at k; exact k
    · rw [if_pos z, if_pos z2] at k; exact k
    · rw [if_neg z] at k; exact k
  exact e_X12_joined hC ⟨by omega, fun q1 => ⟨fun q2 => main (by omega), fun q2 => ⟨by constructor <;> omega, fun q3 => main (by omega), fun q3 => h0 (fun x => by omega)⟩⟩, fun q1 => h0 (fun x => by omega)⟩
