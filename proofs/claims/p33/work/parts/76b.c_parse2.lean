/-! ===== the class reads a text: the machine of 76a ===== -/
theorem K_of {K : Option ck_V → ck_W → Prop} {w : ck_W} {x y : Int} (h : K (some (.inl x)) w) (e : x = y) : K (some (.inl y)) w := e ▸ h
def pV (a : Int) (u s : ck_W) : Prop := (∀ j, (j = 4 ∨ (9 ≤ j ∧ j ≤ 16)) → u 67 j = s 0 j) ∧ (∀ j, u 69 j = s 1 j) ∧ (∀ i, 0 ≤ i → i < 300 → u 11 (a + i) = s 2 i) ∧ u 67 3 = -1
theorem pV_f {a : Int} {u s : ck_W} (h : pV a u s) (j v : Int) (h3 : ¬ j = 3 := by decide) : pV a (ck_up u 67 j v) (ck_up s 0 j v) := by
  refine ⟨fun i hi => ?_, fun i => ?_, fun i i0 i1 => ?_, ?_⟩
  · rw [ck_up_at, ck_up_at]
    split
    · rfl
    · exact h.1 i hi
  · rw [ck_up_ne (by decide), ck_up_ne (by decide)]; exact h.2.1 i
  · rw [ck_up_ne (by decide), ck_up_ne (by decide)]; exact h.2.2.1 i i0 i1
  · rw [ck_up_nj (fun e => h3 e.symm)]; exact h.2.2.2
theorem pV_v {a : Int} {u s : ck_W} (h : pV a u s) {j v v' : Int} (e : v = v') (h3 : ¬ j = 3 := by decide) : pV a (ck_up u 67 j v) (ck_up s 0 j v') := e ▸ pV_f h j v h3
theorem pV_j {a j v : Int} {u s : ck_W} (h : pV a u s) (hj : ¬ (j = 4 ∨ (9 ≤ j ∧ j ≤ 16)) := by omega) (h3 : ¬ j = 3 := by decide) : pV a (ck_up u 67 j v) s :=
  ⟨fun i hi => by rw [ck_up_nj (show i ≠ j by omega)]; exact h.1 i hi, fun i => by rw [ck_up_ne (by decide)]; exact h.2.1 i, fun i i0 i1 => by rw [ck_up_ne (by decide)]; exact h.2.2.1 i i0 i1, by rw [ck_up_nj (fun e => h3 e.symm)]; exact h.2.2.2⟩
theorem pV_pu1 {a o : Int} {u s : ck_W} (h : pV a u s) (q : 0 ≤ u 67 16 ∧ u 67 16 ≤ 63) : pV a (ck_up (ck_up u 69 (u 67 16) o) 67 16 (u 67 16 + 1)) (p_push s o) := by
  have e := h.1 16 (by omega)
  unfold p_push
  rw [if_pos (by rw [← e]; exact q), ← e]
  refine pV_f ⟨fun j hj => ?_, fun j => ?_, fun i i0 i1 => ?_, ?_⟩ 16 _
  · rw [ck_up_ne (by decide), ck_up_ne (by decide)]; exact h.1 j hj
  · rw [ck_up_at, ck_up_at]
    split
    · rfl
    · exact h.2.1 j
  · rw [ck_up_ne (by decide), ck_up_ne (by decide)]; exact h.2.2.1 i i0 i1
  · rw [ck_up_ne (by decide)]; exact h.2.2.2
theorem pV_pu2 {a o : Int} {u s : ck_W} (h : pV a u s) (q : ¬ (0 ≤ u 67 16 ∧ u 67 16 ≤ 63)) : pV a u (p_push s o) := by
  unfold p_push
  rw [if_neg (by rw [← h.1 16 (by omega)]; exact q)]
  exact h
theorem pV_em1 {a c : Int} {u s : ck_W} (h : pV a u s) (q0 : 0 ≤ u 67 4) (q : ¬ 300 ≤ u 67 4) : pV a (ck_up (ck_up u 11 (a + u 67 4) c) 67 4 (u 67 4 + 1)) (p_emit s c) := by
  have e := h.1 4 (by omega)
  unfold p_emit
  rw [if_pos (by omega), ← e]
  refine pV_f ⟨fun j hj => ?_, fun j => ?_, fun i i0 i1 => ?_, ?_⟩ 4 _
  · rw [ck_up_ne (by decide), ck_up_ne (by decide)]; exact h.1 j hj
  · rw [ck_up_ne (by decide), ck_up_ne (by decide)]; exact h.2.1 j
  · rw [ck_up_at, ck_up_at]
    by_cases x : i = u 67 4
    · rw [if_pos (by omega), if_pos x]
    · rw [if_neg (by omega), if_neg x]; exact h.2.2.1 i i0 i1
  · rw [ck_up_ne (by decide)]; exact h.2.2.2
theorem pV_em2 {a c : Int} {u s : ck_W} (h : pV a u s) (q : 300 ≤ u 67 4) : pV a u (p_emit s c) := by
  unfold p_emit
  rw [if_neg (by rw [← h.1 4 (by omega)]; omega)]
  exact h
theorem p2_X6_push {g : ch_G} {A R : Nat} (hC : ck_Cx g A R) {d : Nat} {K : Option ck_V → ck_W → Prop} {w : ck_W} {a1 f b : Int} {w0 s : ck_W} (hs : cp_S w0 f b w) (hv : pV f w s) (h1 : 0 ≤ a1 ∧ a1 ≤ 22) (h : ∀ w', cp_S w0 f b w' → pV f w' (p_push s a1) → (∀ j, j ≠ 16 → w' 67 j = w 67 j) → K none w') : ck_Ex (ch_C g A R) (d + 1) mX6_push [.inr (.inr 67), .inl a1] w K := by
  have n := hs.2.2.2.2.2.2
  unfold cp_N at n
  refine e_X6_push hC ⟨fun q => ⟨by omega, by constructor <;> omega, h _ ?_ (pV_pu1 hv q) (fun j hj => by rw [ck_up_nj hj, ck_up_ne (by decide)])⟩, fun q => h w hs (pV_pu2 hv q) (fun _ _ => rfl)⟩
  obtain ⟨h1', h2, h3, h4, h5, h6, h7⟩ := hs
  refine ⟨fun k a b c => by rw [ck_up_ne a, ck_up_ne b]; exact h1' k a b c, by simp [ck_up]; exact h2, ?_, by simp [ck_up]; omega, ?_, fun i i0 i1 => ?_, by simp [cp_N, ck_up]; omega⟩
  · rw [ck_up_ne (by decide), ck_up_ne (by decide)]; exact h3
  · rw [ck_up_ne (show 11 ≠ 67 by decide), ck_up_ne (show 11 ≠ 69 by decide), ck_up_nj (by decide), ck_up_ne (by decide)]; exact h5
  · rw [ck_up_ne (by decide), ck_up_at]
    split
    · exact h1
    · exact h6 i i0 i1
theorem p2_X6_emit {g : ch_G} {A R : Nat} (hC : ck_Cx g A R) {d : Nat} {K : Option ck_V → ck_W → Prop} {w : ck_W} {a2 a3 b : Int} {w0 s : ck_W} (hs : cp_S w0 a2 b w) (hv : pV a2 w s) (h2 : 0 ≤ a2 ∧ a2 ≤ 900) (h3 : 0 ≤ a3 ∧ a3 ≤ 30000) (h : ∀ w', cp_S w0 a2 b w' → pV a2 w' (p_emit s a3) → (∀ j, j ≠ 4 → w' 67 j = w 67 j) → K none w') : ck_Ex (ch_C g A R) (d + 1) mX6_emit [.inr (.inr 67), .inr (.inr 11), .inl a2, .inl a3] w K := by
  have n4 := hs.2.2.2.1
  refine e_X6_emit hC ⟨by constructor <;> omega, fun q => h w hs (pV_em2 hv q) (fun _ _ => rfl), fun q => ⟨by decide, fun q2 => ⟨by omega, by constructor <;> omega, h _ ?_ (pV_em1 hv n4.1 q) (fun j hj => by rw [ck_up_nj hj, ck_up_ne (by decide)])⟩, fun q2 => absurd (by omega) q2⟩⟩
  obtain ⟨g1, g2, g3, g4, g5, g6, g7⟩ := hs
  have g7' := g7
  unfold cp_N at g7'
  refine ⟨fun k a b c => by rw [ck_up_ne a, ck_up_ne c]; exact g1 k a b c, by simp [ck_up]; exact g2, fun j hj => ?_, by simp [ck_up]; omega, fun i i0 i1 => ?_, ?_, by simp [cp_N, ck_up]; omega⟩
  · rw [ck_up_ne (by decide), ck_up_nj (by omega)]; exact g3 j hj
  · rw [ck_up_eq] at i1
    rw [ck_up_ne (by decide), ck_up_at]
    split
    · exact h3
    · exact g5 i i0 (by omega)
  · rw [ck_up_ne (by decide), ck_up_ne (by decide)]; exact g6
theorem p2_X6_rank {g : ch_G} {A R : Nat} (hC : ck_Cx g A R) {d : Nat} {K : Option ck_V → ck_W → Prop} {w : ck_W} {a0 : Int} (h : K (some (.inl (rk a0))) w) : ck_Ex (ch_C g A R) (d + 1) mX6_rank [.inl a0] w K := by
  refine e_X6_rank hC ?_
  with_reducible repeat' (first | apply And.intro | intro _)
  all_goals (refine K_of h ?_; unfold rk; repeat' split)
  all_goals omega
theorem p2_X6_unwind {g : ch_G} {A R : Nat} (hC : ck_Cx g A R) {d : Nat} {K : Option ck_V → ck_W → Prop} {w : ck_W} {a2 a3 b : Int} {w0 s : ck_W} (hs : cp_S w0 a2 b w) (hv : pV a2 w s) (hb : 0 ≤ b ∧ b ≤ 100000) (h2 : 0 ≤ a2 ∧ a2 ≤ 900) (h : ∀ w', cp_S w0 a2 (b + 64) w' → pV a2 w' (p_U s a3) → (∀ j, j ≠ 4 → j ≠ 13 → j ≠ 16 → w' 67 j = w 67 j) → K none w') : ck_Ex (ch_C g A R) (d + 2) mX6_unwind [.inr (.inr 67), .inr (.inr 11), .inl a2, .inl a3] w K := by
  have n := hs.2.2.2.2.2.2
  unfold cp_N at n
  have lp : ∀ (m : Nat) (a4 : Int) (u t : ck_W), a4 + 1 = m → a4 < 64 → cp_S w0 a2 (b + 63 - a4) u → pV a2 u t → p_uw a3 m t = p_U s a3 → (∀ j, j ≠ 4 → j ≠ 13 → j ≠ 16 → u 67 j = w 67 j) → ck_At (ch_C g A R) (d + 2) mX6_unwind K 8 [some (.inr (.inr 67)), some (.inr (.inr 11)), some (.inl a2), some (.inl a3), some (.inl a4)] [] u := by
    intro m
    induction m with
    | zero =>
      intro a4 u t g1 g2 g3 gv gu g4
      rw [p_uw] at gu
      exact r_X6_unwind_8 hC ⟨fun _ => h u (cp_mo g3 (by omega)) (gu ▸ gv) g4, fun q => absurd (by omega) q⟩
    | succ m ih =>
      intro a4 u t g1 g2 g3 gv gu g4
      have sb := g3.2.2.2.2.2.1 a4 (by omega) g2
      have n2 := g3.2.2.2.2.2.2
      unfold cp_N at n2
      have am : a4 = (m : Int) := by omega
      have et : u 69 a4 = t 1 (m : Int) := by rw [am]; exact gv.2.1 _
      rw [p_uw, ← et] at gu
      have em : ∀ v : ck_W, ¬ u 69 a4 = 19 → ¬ rk (u 69 a4) < a3 → cp_S w0 a2 (b + 64 - a4) v → pV a2 v (p_less t (u 69 a4)) → (∀ j, j ≠ 4 → j ≠ 13 → j ≠ 16 → v 67 j = w 67 j) → ck_CN (ch_C g A R) (d + 1) mX6_emit [.inr (.inr 67), .inr (.inr 11), .inl a2, .inl (20000 + u 69 a4)] v (fun w13 => ck_i (a4 + (-1)) ∧ (ck_At (ch_C g A R) (d + 2) mX6_unwind K 8 [some (.inr (.inr 67)), some (.inr (.inr 11)), some (.inl a2), some (.inl a3), some (.inl (a4 + (-1)))] [] (ck_up w13 67 16 a4))) := by
        intro v y1 y2 k1 kv k2
        refine p2_X6_emit hC k1 kv h2 (by omega) (fun w' e1 ev e2 => ⟨rfl, by constructor <;> omega, ?_⟩)
        have n3 := e1.2.2.2.2.2.2
        unfold cp_N at n3
        refine ih (a4 + (-1)) _ _ (by omega) (by omega) (cp_up e1 (fun k hk => by simp [ck_up, hk]) (by simp [ck_up]) (by simp [ck_up]) (by simp [cp_N, ck_up]; omega)) (pV_f ev 16 a4) ?_ (fun j a b c => by rw [ck_up_nj c, e2 j a]; exact k2 j a b c)
        rw [if_neg (by omega)] at gu
        rw [← gu]
        unfold p_pop
        rw [← et, ← am]
      have k : (u 69 a4 = 19 ∨ rk (u 69 a4) < a3) → K none u := fun y => by
        rw [if_pos y] at gu
        exact h u (cp_mo g3 (by omega)) (gu ▸ gv) g4
      have ls : (u 69 a4 = 8 ∨ u 69 a4 = 22) → pV a2 (ck_up u 67 13 (u 67 13 - 1)) (p_less t (u 69 a4)) := fun y => by
        unfold p_less
        rw [if_pos y]
        exact pV_v gv (by rw [gv.1 13 (by omega)])
      have ln : ¬ (u 69 a4 = 8 ∨ u 69 a4 = 22) → pV a2 u (p_less t (u 69 a4)) := fun y => by
        unfold p_less
        rw [if_neg y]
        exact gv
      refine r_X6_unwind_8 hC ⟨fun q => absurd q (by omega), fun _ => ⟨fun q => absurd q (by omega), fun _ => ⟨by omega, fun y => k (Or.inl y), fun y => p2_X6_rank hC ⟨_, rfl, fun _ => ⟨fun y2 => k (Or.inr y2), fun y2 => ⟨fun z => ⟨by constructor <;> omega, by constructor <;> omega, em _ y y2 (cp_up g3 (fun k hk => by simp [ck_up, hk]) (by simp [ck_up]) (by simp [ck_up]) (by simp [cp_N, ck_up]; omega)) (ls (Or.inl z)) (fun j a b c => by rw [ck_up_nj b]; exact g4 j a b c)⟩, fun z => ⟨fun z2 => ⟨by constructor <;> omega, em u y y2 (cp_mo g3 (by omega)) (ln (by omega)) g4⟩, fun z2 => ⟨by constructor <;> omega, by constructor <;> omega, em _ y y2 (cp_up g3 (fun k hk => by simp [ck_up, hk]) (by simp [ck_up]) (by simp [ck_up]) (by simp [cp_N, ck_up]; omega)) (ls (Or.inr z2)) (fun j a b c => by rw [ck_up_nj b]; exact g4 j a b c)⟩⟩⟩⟩⟩⟩⟩⟩
  refine e_X6_unwind hC ⟨by constructor <;> omega, lp (w 67 16).toNat (w 67 16 - 1) w s (by omega) (by omega) (cp_mo hs (by omega)) hv ?_ (fun _ _ _ _ => rfl)⟩
  unfold p_U
  rw [hv.1 16 (by omega)]
theorem p2_X6_canStand {g : ch_G} {A R : Nat} (hC : ck_Cx g A R) {d : Nat} {K : Option ck_V → ck_W → Prop} {w : ck_W} {a : Int} {s : ck_W} (hv : pV a w s) (k1 : p_cs s (w 67 5) → K (some (.inl 1)) w) (k0 : ¬ p_cs s (w 67 5) → K (some (.inl 0)) w) : ck_Ex (ch_C g A R) (d + 1) mX6_canStand [.inr (.inr 67)] w K := by
  have e9 := hv.1 9 (by omega)
  have e10 := hv.1 10 (by omega)
  have e14 := hv.1 14 (by omega)
  unfold p_cs at k1 k0
  rw [← e9, ← e10, ← e14] at k1 k0
  refine e_X6_canStand hC ?_
  with_reducible repeat' (first | apply And.intro | intro _)
  all_goals first | exact k1 (by omega) | exact k0 (by omega)
theorem p2_X6_faultHere {g : ch_G} {A R : Nat} (hC : ck_Cx g A R) {d : Nat} {K : Option ck_V → ck_W → Prop} {w : ck_W} {a v : Int} {s : ck_W} (hv : pV a w s) (h6 : w 67 5 = 2 → w 67 6 = v) (h : ∀ f, p_f s (w 67 5) v f → (0 ≤ f ∧ f ≤ 4) → K (some (.inl f)) w) : ck_Ex (ch_C g A R) (d + 2) mX6_faultHere [.inr (.inr 67)] w K := by
  have e9 := hv.1 9 (by omega)
  have e12 := hv.1 12 (by omega)
  have e13 := hv.1 13 (by omega)
  refine e_X6_faultHere hC (p2_X6_canStand hC hv (fun hc => ⟨_, rfl, fun _ => ⟨fun _ => ?_, fun z => absurd z (by decide)⟩⟩) (fun hc => ⟨_, rfl, fun _ => ⟨fun z => absurd rfl z, fun _ => h 1 (Or.inl ⟨hc, rfl⟩) (by decide)⟩⟩))
  have f2 : (w 67 5 = 2 ∧ 9999 < v) → K (some (.inl 2)) w := fun q => h 2 (Or.inr (Or.inl ⟨hc, q, rfl⟩)) (by decide)
  have f3 : ¬ (w 67 5 = 2 ∧ 9999 < v) → (¬ w 67 9 = 3 ∧ (w 67 5 = 19 ∨ w 67 5 = 8 ∨ w 67 5 = 16) ∧ 8 ≤ w 67 13) → K (some (.inl 3)) w := fun q r => h 3 (Or.inr (Or.inr (Or.inl ⟨hc, q, by rw [← e9, ← e13]; exact r, rfl⟩))) (by decide)
  have f4 : ¬ (w 67 5 = 2 ∧ 9999 < v) → ¬ (¬ w 67 9 = 3 ∧ (w 67 5 = 19 ∨ w 67 5 = 8 ∨ w 67 5 = 16) ∧ 8 ≤ w 67 13) → (w 67 9 = 0 ∧ ¬ w 67 5 = 0 ∧ 10 ≤ w 67 12) → K (some (.inl 4)) w := fun q r t => h 4 (Or.inr (Or.inr (Or.inr (Or.inl ⟨hc, q, by rw [← e9, ← e13]; exact r, by rw [← e9, ← e12]; exact t, rfl⟩)))) (by decide)
  have f0 : ¬ (w 67 5 = 2 ∧ 9999 < v) → ¬ (¬ w 67 9 = 3 ∧ (w 67 5 = 19 ∨ w 67 5 = 8 ∨ w 67 5 = 16) ∧ 8 ≤ w 67 13) → ¬ (w 67 9 = 0 ∧ ¬ w 67 5 = 0 ∧ 10 ≤ w 67 12) → K (some (.inl 0)) w := fun q r t => h 0 (Or.inr (Or.inr (Or.inr (Or.inr ⟨hc, q, by rw [← e9, ← e13]; exact r, by rw [← e9, ← e12]; exact t, rfl⟩)))) (by decide)
  clear h hc
  with_reducible repeat' (first | apply And.intro | intro _)
  all_goals first | exact f0 (by omega) (by omega) (by omega) | exact f4 (by omega) (by omega) (by omega) | exact f3 (by omega) (by omega) | exact f2 (by omega)
theorem p2_X6_takeOperand {g : ch_G} {A R : Nat} (hC : ck_Cx g A R) {d : Nat} {K : Option ck_V → ck_W → Prop} {w : ck_W} {a2 b v : Int} {w0 s : ck_W} (hs : cp_S w0 a2 b w) (hv : pV a2 w s) (h6 : w 67 5 = 2 ∨ w 67 5 = 3 → w 67 6 = v) (hb : 0 ≤ b ∧ b ≤ 100000) (h2 : 0 ≤ a2 ∧ a2 ≤ 900) (h : ∀ w', cp_S w0 a2 (b + 70) w' → pV a2 w' (p_and s (w 67 5) v) → w' 67 8 = w 67 8 → K none w') : ck_Ex (ch_C g A R) (d + 2) mX6_takeOperand [.inr (.inr 67), .inr (.inr 11), .inl a2] w K := by
  have n := hs.2.2.2.2.2.2
  unfold cp_N at n
  have pu : ∀ o, 0 ≤ o ∧ o ≤ 22 → ¬ w 67 5 = 2 → ¬ w 67 5 = 3 → o = (if w 67 5 = 16 then 22 else w 67 5) → ck_CN (ch_C g A R) (d + 1) mX6_push [.inr (.inr 67), .inl o] w (fun w5 => ck_i ((w5 67 13) + 1) ∧ ((¬ (w5 67 5) = 19 → (¬ (w5 67 5) = 8 → K none (ck_up (ck_up w5 67 13 ((w5 67 13) + 1)) 67 9 2)) ∧ ((w5 67 5) = 8 → K none (ck_up (ck_up w5 67 13 ((w5 67 13) + 1)) 67 9 1))) ∧ ((w5 67 5) = 19 → ck_i ((w5 67 14) + 1) ∧ ((¬ (w5 67 5) = 8 → K none (ck_up (ck_up (ck_up w5 67 13 ((w5 67 13) + 1)) 67 14 ((w5 67 14) + 1)) 67 9 2)) ∧ ((w5 67 5) = 8 → K none (ck_up (ck_up (ck_up w5 67 13 ((w5 67 13) + 1)) 67 14 ((w5 67 14) + 1)) 67 9 1)))))) := by
    intro o ho y2 y3 eo
    have ea : p_and s (w 67 5) v = p_opn (p_push s o) (w 67 5) := by unfold p_and; rw [if_neg y2, if_neg y3, ← eo]
    rw [ea] at h
    refine p2_X6_push hC hs hv ho (fun w' e1 ev e2 => ⟨rfl, ?_⟩)
    have n3 := e1.2.2.2.2.2.2
    unfold cp_N at n3
    have e5 := e2 5 (by decide)
    have v13 : pV a2 (ck_up w' 67 13 (w' 67 13 + 1)) (ck_up (p_push s o) 0 13 (p_push s o 0 13 + 1)) := pV_v ev (by rw [ev.1 13 (by omega)])
    unfold p_opn at h
    dsimp only
    rw [e5]
    have e8 := e2 8 (by decide)
    refine ⟨by constructor <;> omega, fun x => ⟨fun y => h _ (cp_up e1 (fun k hk => by simp [ck_up, hk]) (by simp [ck_up]) (by simp [ck_up]) (by simp [cp_N, ck_up]; omega)) ?_ (by simp [ck_up]; exact e8), fun y => h _ (cp_up e1 (fun k hk => by simp [ck_up, hk]) (by simp [ck_up]) (by simp [ck_up]) (by simp [cp_N, ck_up]; omega)) ?_ (by simp [ck_up]; exact e8)⟩, fun x => ⟨by constructor <;> omega, fun y => h _ (cp_up e1 (fun k hk => by simp [ck_up, hk]) (by simp [ck_up]) (by simp [ck_up]) (by simp [cp_N, ck_up]; omega)) ?_ (by simp [ck_up]; exact e8), fun y => h _ (cp_up e1 (fun k hk => by simp [ck_up, hk]) (by simp [ck_up]) (by simp [ck_up]) (by simp [cp_N, ck_up]; omega)) ?_ (by simp [ck_up]; exact e8)⟩⟩
    · rw [if_neg x, if_neg y]; exact pV_f v13 9 2
    · rw [if_neg x, if_pos y]; exact pV_f v13 9 1
    · rw [if_pos x, if_neg y]; exact pV_f (pV_v v13 (by rw [ev.1 14 (by omega)])) 9 2
    · rw [if_pos x, if_pos y]; exact pV_f (pV_v v13 (by rw [ev.1 14 (by omega)])) 9 1
  refine e_X6_takeOperand hC ⟨fun q => ⟨fun q1 => ⟨fun q2 => pu _ (by omega) q q1 (by rw [if_neg q2]), fun q2 => pu _ (by omega) q q1 (by rw [if_pos q2])⟩, fun q1 => ⟨by constructor <;> omega, p2_X6_emit hC hs hv h2 (by omega) (fun w' e1 ev e2 => ⟨rfl, ?_⟩)⟩⟩, fun q => p2_X6_emit hC hs hv h2 (by omega) (fun w' e1 ev e2 => ⟨rfl, ?_⟩)⟩
  · have n3 := e1.2.2.2.2.2.2
    unfold cp_N at n3
    refine h _ (cp_up e1 (fun k hk => by simp [ck_up, hk]) (by simp [ck_up]) (by simp [ck_up]) (by simp [cp_N, ck_up]; omega)) ?_ (by simp [ck_up]; exact e2 8 (by decide))
    unfold p_and
    rw [if_neg q, if_pos q1, ← h6 (Or.inr q1)]
    exact pV_f ev 9 3
  · have n3 := e1.2.2.2.2.2.2
    unfold cp_N at n3
    refine h _ (cp_up e1 (fun k hk => by simp [ck_up, hk]) (by simp [ck_up]) (by simp [ck_up]) (by simp [cp_N, ck_up]; omega)) ?_ (by simp [ck_up]; exact e2 8 (by decide))
    unfold p_and
    rw [if_pos q, ← h6 (Or.inl q)]
    exact pV_f ev 9 3
theorem p2_X6_takeOperator {g : ch_G} {A R : Nat} (hC : ck_Cx g A R) {d : Nat} {K : Option ck_V → ck_W → Prop} {w : ck_W} {a2 b : Int} {w0 s : ck_W} (hs : cp_S w0 a2 b w) (hv : pV a2 w s) (hb : 0 ≤ b ∧ b ≤ 100000) (h2 : 0 ≤ a2 ∧ a2 ≤ 900) (h : ∀ w', cp_S w0 a2 (b + 70) w' → pV a2 w' (p_tor (p_U s (rk (w 67 5))) (w 67 5)) → w' 67 8 = w 67 8 → K none w') : ck_Ex (ch_C g A R) (d + 3) mX6_takeOperator [.inr (.inr 67), .inr (.inr 11), .inl a2] w K := by
  refine e_X6_takeOperator hC (p2_X6_rank hC ⟨_, rfl, fun _ => p2_X6_unwind hC hs hv hb h2 (fun w6 e1 ev e2 => ⟨rfl, ?_⟩)⟩)
  have n3 := e1.2.2.2.2.2.2
  unfold cp_N at n3
  have e5 := e2 5 (by decide) (by decide) (by decide)
  have e8 := e2 8 (by decide) (by decide) (by decide)
  generalize hU : p_U s (rk (w 67 5)) = t at ev h
  rw [← e5] at h
  unfold p_tor at h
  refine ⟨fun q => ⟨fun q1 => p2_X6_push hC e1 ev (by omega) (fun w' f1 fv f2 => ⟨rfl, ?_⟩), fun q1 => ⟨by constructor <;> omega, p2_X6_emit hC e1 ev h2 (by omega) (fun w' f1 fv f2 => ⟨rfl, ?_⟩)⟩⟩, fun q => ⟨by constructor <;> omega, by constructor <;> omega, by constructor <;> omega, h _ (cp_up e1 (fun k hk => by simp [ck_up, hk]) (by simp [ck_up]) (by simp [ck_up]) (by simp [cp_N, ck_up]; omega)) ?_ (by simp [ck_up]; exact e8)⟩⟩
  · have n4 := f1.2.2.2.2.2.2
    unfold cp_N at n4
    rw [if_neg q, if_neg q1] at h
    have g5 : w' 67 5 = w6 67 5 := f2 5 (by decide)
    have g10 := fv.1 10 (by omega)
    have fin : ∀ x y : Int, x = (if (9 ≤ w6 67 5 ∧ w6 67 5 ≤ 14) ∨ (¬ w' 67 10 = 0 ∧ 15 ≤ w6 67 5 ∧ w6 67 5 ≤ 18) then 1 else 0) → y = (if w6 67 5 = 6 ∨ w6 67 5 = 7 then 1 else 2) → K none (ck_up (ck_up w' 67 10 x) 67 9 y) := fun x y ex ey => by
      refine h _ (cp_up f1 (fun k hk => by simp [ck_up, hk]) (by simp [ck_up]) (by simp [ck_up]) (by simp [cp_N, ck_up]; omega)) ?_ (by simp [ck_up]; rw [f2 8 (by decide)]; exact e8)
      unfold p_cmp
      rw [← g10, ← ex, ← ey]
      exact pV_f (pV_f fv 10 x) 9 y
    dsimp only
    rw [g5]
    clear h
    with_reducible repeat' (first | apply And.intro | intro _)
    all_goals (refine fin _ _ ?_ ?_)
    all_goals (first | rw [if_pos (by omega)] | rw [if_neg (by omega)])
  · have n4 := f1.2.2.2.2.2.2
    unfold cp_N at n4
    rw [if_neg q, if_pos q1] at h
    refine h _ (cp_up f1 (fun k hk => by simp [ck_up, hk]) (by simp [ck_up]) (by simp [ck_up]) (by simp [cp_N, ck_up]; omega)) ?_ (by simp [ck_up]; rw [f2 8 (by decide)]; exact e8)
    rw [← ev.1 11 (by omega)]
    exact pV_f fv 9 0
  · rw [if_pos q]
    refine pV_v (pV_v (pV_v ev ?_) ?_) ?_
    · rw [ev.1 16 (by omega)]
    · rw [ev.1 14 (by omega)]
    · rw [ev.1 13 (by omega)]
theorem p2_X6_take {g : ch_G} {A R : Nat} (hC : ck_Cx g A R) {d : Nat} {K : Option ck_V → ck_W → Prop} {w : ck_W} {a2 b v : Int} {w0 s : ck_W} (hs : cp_S w0 a2 b w) (hv : pV a2 w s) (h6 : w 67 5 = 2 ∨ w 67 5 = 3 → w 67 6 = v) (hb : 0 ≤ b ∧ b ≤ 100000) (h2 : 0 ≤ a2 ∧ a2 ≤ 900) (h : ∀ w', cp_S w0 a2 (b + 70) w' → pV a2 w' (p_t s (w 67 5) v) → w' 67 8 = w 67 8 → K none w') : ck_Ex (ch_C g A R) (d + 4) mX6_take [.inr (.inr 67), .inr (.inr 11), .inl a2] w K := by
  have n := hs.2.2.2.2.2.2
  unfold cp_N at n
  have e9 := hv.1 9 (by omega)
  have e12 := hv.1 12 (by omega)
  unfold p_t at h
  rw [← e9] at h
  refine e_X6_take hC ⟨fun q => ⟨fun q1 => p2_X6_takeOperand hC hs hv h6 hb h2 (fun w' k kv k8 => ⟨rfl, h w' k (by rw [if_neg q, if_neg q1]; exact kv) k8⟩), fun q1 => p2_X6_takeOperator hC hs hv hb h2 (fun w' k kv k8 => ⟨rfl, h w' k (by rw [if_neg q, if_pos q1]; exact kv) k8⟩)⟩, fun q => ⟨by constructor <;> omega, h _ (cp_up hs (fun k hk => by simp [ck_up, hk]) (by simp [ck_up]) (by simp [ck_up]) (by simp [cp_N, ck_up]; omega)) ?_ (by simp [ck_up])⟩⟩
  rw [if_pos q]
  exact pV_f (pV_f (pV_v (pV_f hv 11 _) (by rw [e12])) 10 0) 9 1
