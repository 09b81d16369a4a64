/-! ===== the reference runs a clause: the class's code gives the same ===== -/
theorem tx_f2 {o v : Int} {s s' : Int × Int} (h : tx_ef2 o v s = some s') : tx_eff o v s = some s' ∧ ¬ ((20 ≤ o ∧ ¬ s.1 = 0) ∨ (10 ≤ o ∧ o < 20 ∧ ¬ s.1 = 2) ∨ (o ≤ 1 ∧ 40 < s.1 + s.2)) := by
  unfold tx_ef2 at h
  by_cases q : (20 ≤ o ∧ ¬ s.1 = 0) ∨ (10 ≤ o ∧ o < 20 ∧ ¬ s.1 = 2) ∨ (o ≤ 1 ∧ 40 < s.1 + s.2)
  · rw [if_pos q] at h; cases h
  · rw [if_neg q] at h; exact ⟨h, q⟩
theorem tx_pre2 {t : Int → Int} {c s : Int} : ∀ {q k : Nat} {x : Int × Int}, tx_s2 t c s q = some x → k ≤ q → ∃ y, tx_s2 t c s k = some y
  | 0, k, x, h, hk => by
    rw [show k = 0 by omega]; exact ⟨x, h⟩
  | q + 1, k, x, h, hk => by
    by_cases e : k = q + 1
    · rw [e]; exact ⟨x, h⟩
    · cases hq : tx_s2 t c s q with
      | none => rw [tx_s2, hq] at h; cases h
      | some y => exact tx_pre2 hq (by omega)
theorem cv_st_w {val : Int → Int} {x : Int} {t : (Int × Int) × cv_S} (h : 20000 ≤ x) (h4 : ¬ x = 20004) (h5 : ¬ x = 20005) : cv_st val x t = (t.1, cv_wk (x - 20000) t.2) := by
  unfold cv_st
  rw [if_neg (by omega), if_neg (by omega), if_neg h4, if_neg h5]
theorem S2_X12_isSo {g : ch_G} {A R : Nat} (hC : ck_Cx g A R) {d : Nat} {K : Option ck_V → ck_W → Prop} {w : ck_W} {a1 a2 : Int} {val cd : Int → Int} {q0 : Int × Int} {s0 : cv_S} (h1 : 0 ≤ a1 ∧ a1 < 4) (h2 : 0 ≤ a2 ∧ a2 < 10) (ht : tx_cl (w 79) (800 * a1) a2) (hn : ∀ j, 0 ≤ j → j < 9 → -1000 ≤ w 91 j ∧ w 91 j ≤ 1000) (hv : ∀ j, 0 ≤ j → j < 9 → w 91 j = val j)
    (hc : ∀ i, w 79 (800 * a1 + 2 + 3 * a2) ≤ i → i < w 79 (800 * a1 + 3 + 3 * a2) → cd (a2 + i) = scv (w 79 (800 * a1 + 50 + 2 * i)) (w 79 (800 * a1 + 50 + 2 * i + 1)))
    (h3 : tx_s2 (w 79) (800 * a1 + 50) (w 79 (800 * a1 + 2 + 3 * a2)) (w 79 (800 * a1 + 3 + 3 * a2) - w 79 (800 * a1 + 2 + 3 * a2)).toNat = some (0, 1)) (hd : s0.1 = 0)
    (h : ∀ v w' s', (v = 0 ∨ v = 1) → (∀ k, k ≠ 92 → k ≠ 93 → w' k = w k) → cv_rn val cd (w 79 (800 * a1 + 3 + 3 * a2) - w 79 (800 * a1 + 2 + 3 * a2)).toNat (a2 + w 79 (800 * a1 + 2 + 3 * a2)) (q0, s0) = (q0, s') → s'.1 = 1 → s'.2 0 = v → K (some (.inl v)) w') : ck_Ex (ch_C g A R) (d + 2) mX12_isSo [.inr (.inr 76), .inl a1, .inl a2] w K := by
  obtain ⟨t0, t1, t2, t3⟩ := ht
  have e2 : 800 * a1 + 1 + 3 * a2 + 1 = 800 * a1 + 2 + 3 * a2 := by omega
  have e3 : 800 * a1 + 1 + 3 * a2 + 2 = 800 * a1 + 3 + 3 * a2 := by omega
  have l : ∀ (m : Nat) (a5 a6 a7 : Int) (u : ck_W) (s : cv_S), w 79 (800 * a1 + 3 + 3 * a2) - a7 = m → w 79 (800 * a1 + 2 + 3 * a2) ≤ a7 → (∀ k, k ≠ 92 → k ≠ 93 → u k = w k) → tx_st (w 79) (800 * a1 + 50) (w 79 (800 * a1 + 2 + 3 * a2)) (a7 - w 79 (800 * a1 + 2 + 3 * a2)).toNat = some (a5, a6) → tx_s2 (w 79) (800 * a1 + 50) (w 79 (800 * a1 + 2 + 3 * a2)) (a7 - w 79 (800 * a1 + 2 + 3 * a2)).toNat = some (a5, a6) → (∀ j, 0 ≤ j → j < a5 → -1000000 ≤ u 92 j ∧ u 92 j ≤ 1000000) → (∀ j, 0 ≤ j → j < a6 → u 93 j = 0 ∨ u 93 j = 1) → a5 + a6 ≤ 41 → rl a5 a6 (u 92) (u 93) s → cv_rn val cd (a7 - w 79 (800 * a1 + 2 + 3 * a2)).toNat (a2 + w 79 (800 * a1 + 2 + 3 * a2)) (q0, s0) = (q0, s) → ck_At (ch_C g A R) (d + 2) mX12_isSo K 38 [some (.inr (.inr 76)), none, none, some (.inl (800 * a1 + 1 + 3 * a2)), some (.inl (800 * a1 + 50)), some (.inl a5), some (.inl a6), some (.inl a7), none, none] [] u := by
    intro m
    induction m with
    | zero =>
      intro a5 a6 a7 u s q1 q2 q3 q4 q4s q5 q6 q7 q8 q9
      have u79 := q3 79 (by decide) (by decide)
      refine r_X12_isSo_38 hC ?_
      rw [u79, e3]
      refine ⟨by omega, fun _ => ?_, fun z => absurd (by omega) z⟩
      rw [show a7 = w 79 (800 * a1 + 3 + 3 * a2) by omega] at q4 q9
      rw [t3] at q4
      cases q4
      have b := q6 0 (by decide) (by decide)
      exact ⟨b, h _ u s b q3 q9 q8.1 (q8.2.1 0 (by decide) (by decide))⟩
    | succ m ih =>
      intro a5 a6 a7 u s q1 q2 q3 q4 q4s q5 q6 q7 q8 q9
      have u79 := q3 79 (by decide) (by decide)
      have lb := tx_len q4
      obtain ⟨y2, ey2⟩ := tx_pre2 (k := (a7 - w 79 (800 * a1 + 2 + 3 * a2)).toNat + 1) h3 (by omega)
      have ey2s := ey2
      rw [tx_s2, q4s] at ey2
      rw [show w 79 (800 * a1 + 2 + 3 * a2) + ((a7 - w 79 (800 * a1 + 2 + 3 * a2)).toNat : Int) = a7 by omega] at ey2
      have ef2 := tx_f2 (show tx_ef2 (w 79 (800 * a1 + 50 + 2 * a7)) (w 79 (800 * a1 + 50 + 2 * a7 + 1)) (a5, a6) = some y2 from ey2)
      obtain ⟨ey', strict⟩ := ef2
      dsimp only at strict
      have ef := tx_ef ey'
      have cc := hc a7 q2 (by omega)
      have go : ∀ a5' a6' u' s', y2 = (a5', a6') → (∀ k, k ≠ 92 → k ≠ 93 → u' k = u k) → (∀ j, 0 ≤ j → j < a5' → -1000000 ≤ u' 92 j ∧ u' 92 j ≤ 1000000) → (∀ j, 0 ≤ j → j < a6' → u' 93 j = 0 ∨ u' 93 j = 1) → a5' + a6' ≤ 41 → rl a5' a6' (u' 92) (u' 93) s' → cv_st val (cd (a2 + a7)) (q0, s) = (q0, s') → ck_At (ch_C g A R) (d + 2) mX12_isSo K 346 [some (.inr (.inr 76)), none, none, some (.inl (800 * a1 + 1 + 3 * a2)), some (.inl (800 * a1 + 50)), some (.inl a5'), some (.inl a6'), some (.inl a7), none, none] [] u' := by
        intro a5' a6' u' s' i0 i2 i3 i4 i5 i6 i7
        have nx : (a7 + 1 - w 79 (800 * a1 + 2 + 3 * a2)).toNat = (a7 - w 79 (800 * a1 + 2 + 3 * a2)).toNat + 1 := by omega
        refine r_X12_isSo_346 hC ⟨by constructor <;> omega, ih a5' a6' (a7 + 1) u' s' (by omega) (by omega) (fun k k1 k2 => by rw [i2 k k1 k2, q3 k k1 k2]) ?_ ?_ i3 i4 i5 i6 ?_⟩
        · rw [nx, tx_st, q4]
          rw [show w 79 (800 * a1 + 2 + 3 * a2) + ((a7 - w 79 (800 * a1 + 2 + 3 * a2)).toNat : Int) = a7 by omega, ← i0]
          exact ey'
        · rw [nx, ey2s, i0]
        · rw [nx, cv_rn_s, q9, show a2 + w 79 (800 * a1 + 2 + 3 * a2) + ((a7 - w 79 (800 * a1 + 2 + 3 * a2)).toNat : Int) = a2 + a7 by omega]
          exact i7
      rw [cc] at go
      refine r_X12_isSo_38 hC ?_
      rw [u79, e3]
      refine ⟨by omega, fun z => absurd z (by omega), fun _ => ⟨by omega, by omega, fun x ex => ?_⟩⟩
      dsimp only at ef lb
      rcases ef with ⟨o, gz, e⟩ | ⟨o, gz, e⟩ | ⟨o, gz, e⟩ | ⟨o, gz, e⟩ | ⟨o, gz, e⟩ | ⟨o, gz, e⟩ | ⟨o, gz, e⟩
      · rw [← ex] at gz
        have st : cv_st val (scv (w 79 (800 * a1 + 50 + 2 * a7)) (w 79 (800 * a1 + 50 + 2 * a7 + 1))) (q0, s) = (q0, cv_ps s x) := by
          unfold scv cv_st
          rw [if_pos o, ← ex, if_pos (by omega)]
        refine ⟨fun z => absurd z (by omega), fun _ => ⟨fun z => absurd o z, fun _ => ⟨by omega, by constructor <;> omega, go _ _ _ _ e (fun k k1 k2 => by rw [ck_up_ne k1]) (fun j j0 j1 => ?_) (fun j j0 j1 => by rw [ck_up_ne (by decide)]; exact q6 j j0 j1) (by omega) ?_ st⟩⟩⟩
        · by_cases e : j = a5
          · subst e; rw [ck_up_eq]; omega
          · rw [ck_up_nj e]; exact q5 j j0 (by omega)
        · rw [ck_up_row, ck_up_ne (by decide)]
          exact rl_pu q8 (by omega) (by omega)
      · rw [← ex] at gz
        have st : cv_st val (scv (w 79 (800 * a1 + 50 + 2 * a7)) (w 79 (800 * a1 + 50 + 2 * a7 + 1))) (q0, s) = (q0, cv_ps s (u 91 x)) := by
          have sc : scv (w 79 (800 * a1 + 50 + 2 * a7)) (w 79 (800 * a1 + 50 + 2 * a7 + 1)) = 10000 + x := by
            unfold scv
            rw [if_neg (by omega), if_pos o, ← ex]
          rw [sc]
          unfold cv_st
          rw [if_neg (show ¬ 10000 + x < 10000 by omega), if_pos (show 10000 + x < 20000 by omega), show 10000 + x - 10000 = x by omega, q3 91 (by decide) (by decide), hv x (by omega) (by omega)]
        refine ⟨fun z => absurd z (by omega), fun _ => ⟨fun _ => ⟨by omega, by omega, by constructor <;> omega, go _ _ _ _ e (fun k k1 k2 => by rw [ck_up_ne k1]) (fun j j0 j1 => ?_) (fun j j0 j1 => by rw [ck_up_ne (by decide)]; exact q6 j j0 j1) (by omega) ?_ st⟩, fun z => absurd z (by omega)⟩⟩
        · by_cases e : j = a5
          · subst e; rw [ck_up_eq, q3 91 (by decide) (by decide)]; have := hn x (by omega) (by omega); omega
          · rw [ck_up_nj e]; exact q5 j j0 (by omega)
        · rw [ck_up_row, ck_up_ne (by decide)]
          exact rl_pu q8 (by omega) (by omega)
      · have b := q5 (a5 - 1) (by omega) (by omega)
        have p1 := rl_po q8 (by omega) (by omega)
        have st : cv_st val (scv (w 79 (800 * a1 + 50 + 2 * a7)) (w 79 (800 * a1 + 50 + 2 * a7 + 1))) (q0, s) = (q0, cv_ps (cv_pp s).2 (-(u 92 (a5 - 1)))) := by
          have sc : scv (w 79 (800 * a1 + 50 + 2 * a7)) (w 79 (800 * a1 + 50 + 2 * a7 + 1)) = 20022 := by
            unfold scv
            rw [if_neg (by omega), if_neg (by omega), if_pos o]
          rw [sc, cv_st_w (by decide) (by decide) (by decide), ← p1.1]
          rfl
        refine ⟨fun _ => ⟨fun z => absurd o z, fun _ => ⟨by omega, by constructor <;> omega, go _ _ _ _ e (fun k k1 k2 => by rw [ck_up_ne k1]) (fun j j0 j1 => ?_) (fun j j0 j1 => by rw [ck_up_ne (by decide)]; exact q6 j j0 j1) (by omega) ?_ st⟩⟩, fun z => absurd (by omega) z⟩
        · by_cases e : j = a5 - 1
          · subst e; rw [ck_up_eq]; omega
          · rw [ck_up_nj e]; exact q5 j j0 (by omega)
        · rw [ck_up_row, ck_up_ne (by decide)]
          have r := rl_pu (v := -(u 92 (a5 - 1))) p1.2 (by omega) (by omega)
          rw [show a5 - 1 + 1 = a5 by omega] at r
          exact r
      · have b1 := q5 (a5 + -1 - 1) (by omega) (by omega)
        have b2 := q5 (a5 + -1) (by omega) (by omega)
        have p1 := rl_po q8 (by omega) (by omega)
        have p2 := rl_po p1.2 (by omega) (by omega)
        have st : cv_st val (scv (w 79 (800 * a1 + 50 + 2 * a7)) (w 79 (800 * a1 + 50 + 2 * a7 + 1))) (q0, s) = (q0, cv_ps (cv_pp (cv_pp s).2).2 (rm_two (w 79 (800 * a1 + 50 + 2 * a7)) (u 92 (a5 + -1 - 1)) (u 92 (a5 + -1)))) := by
          have sc : scv (w 79 (800 * a1 + 50 + 2 * a7)) (w 79 (800 * a1 + 50 + 2 * a7 + 1)) = 20012 + w 79 (800 * a1 + 50 + 2 * a7) := by
            unfold scv
            rw [if_neg (by omega), if_neg (by omega), if_neg (by omega), if_pos (by omega)]
          rw [sc, cv_st_w (by omega) (by omega) (by omega), show 20012 + w 79 (800 * a1 + 50 + 2 * a7) - 20000 = w 79 (800 * a1 + 50 + 2 * a7) + 12 by omega]
          unfold cv_wk
          rw [if_neg (by omega), if_neg (by omega), if_pos (by omega), p2.1, p1.1, rl_re o, show a5 - 1 - 1 = a5 + -1 - 1 by omega, show a5 - 1 = a5 + -1 by omega]
        refine ⟨fun _ => ⟨fun _ => ⟨fun z => absurd z (by omega), fun _ => ⟨by constructor <;> omega, by omega, by omega, b1, b2, go _ _ _ _ e (fun k k1 k2 => by rw [ck_up_ne k1]) (fun j j0 j1 => ?_) (fun j j0 j1 => by rw [ck_up_ne (by decide)]; exact q6 j j0 j1) (by omega) ?_ st⟩⟩, fun z => absurd z (by omega)⟩, fun z => absurd (by omega) z⟩
        · by_cases e : j = a5 + -1 - 1
          · subst e; rw [ck_up_eq]; exact rm_two_b _ _ _
          · rw [ck_up_nj e]; exact q5 j j0 (by omega)
        · rw [ck_up_row, ck_up_ne (by decide)]
          have r := rl_pu (v := rm_two (w 79 (800 * a1 + 50 + 2 * a7)) (u 92 (a5 + -1 - 1)) (u 92 (a5 + -1))) p2.2 (by omega) (by omega)
          rw [show a5 - 1 - 1 + 1 = a5 - 1 by omega, show a5 - 1 - 1 = a5 + -1 - 1 by omega] at r
          exact r
      · have a52 : a5 = 2 := by omega
        have p1 := rl_po q8 (by omega) (by omega)
        have p2 := rl_po p1.2 (by omega) (by omega)
        have st : cv_st val (scv (w 79 (800 * a1 + 50 + 2 * a7)) (w 79 (800 * a1 + 50 + 2 * a7 + 1))) (q0, s) = (q0, cv_ps (cv_pp (cv_pp s).2).2 (cv_as (w 79 (800 * a1 + 50 + 2 * a7) - 1) (u 92 (a5 + -2)) (u 92 (a5 + -2 + 1)))) := by
          have sc : scv (w 79 (800 * a1 + 50 + 2 * a7)) (w 79 (800 * a1 + 50 + 2 * a7 + 1)) = 19999 + w 79 (800 * a1 + 50 + 2 * a7) := by
            unfold scv
            rw [if_neg (by omega), if_neg (by omega), if_neg (by omega), if_neg (by omega), if_pos (by omega)]
          rw [sc, cv_st_w (by omega) (by omega) (by omega), show 19999 + w 79 (800 * a1 + 50 + 2 * a7) - 20000 = w 79 (800 * a1 + 50 + 2 * a7) - 1 by omega]
          unfold cv_wk
          rw [if_neg (by omega), if_neg (by omega), if_neg (by omega), p2.1, p1.1, show a5 - 1 - 1 = a5 + -2 by omega, show a5 - 1 = a5 + -2 + 1 by omega]
        have p3 := p2.2
        rw [show a5 - 1 - 1 = 0 by omega] at p3
        have as := rl_as (x := u 92 (a5 + -2)) (y := u 92 (a5 + -2 + 1)) o
        have e' : y2 = (a5 + -2, a6 + 1) := e
        have nt : ∀ v, (v = 0 ∨ v = 1) → cv_as (w 79 (800 * a1 + 50 + 2 * a7) - 1) (u 92 (a5 + -2)) (u 92 (a5 + -2 + 1)) = v → ck_At (ch_C g A R) (d + 2) mX12_isSo K 346 [some (.inr (.inr 76)), none, none, some (.inl (800 * a1 + 1 + 3 * a2)), some (.inl (800 * a1 + 50)), some (.inl (a5 + -2)), some (.inl (a6 + 1)), some (.inl a7), none, none] [] (ck_up u 93 a6 v) := fun v hvv ev => by
          rw [ev] at st
          refine go _ _ _ _ e' (fun k k1 k2 => by rw [ck_up_ne k2]) (fun j j0 j1 => by omega) (fun j j0 j1 => ?_) (by omega) ?_ st
          · by_cases e : j = a6
            · subst e; rw [ck_up_eq]; exact hvv
            · rw [ck_up_nj e]; exact q6 j j0 (by omega)
          · rw [ck_up_row, ck_up_ne (by decide), show a5 + -2 = 0 by omega]
            exact rl_pt p3 (by omega) (by omega)
        refine ⟨fun _ => ⟨fun _ => ⟨fun _ => ⟨fun z => absurd z (by omega), fun _ => ⟨by constructor <;> omega, by omega, by omega, fun y => ⟨by omega, by constructor <;> omega, nt 1 (by decide) (as.1 y)⟩, fun y => ⟨by omega, by constructor <;> omega, nt 0 (by decide) (as.2 y)⟩⟩⟩, fun z => absurd (by omega) z⟩, fun z => absurd z (by omega)⟩, fun z => absurd (by omega) z⟩
      · have a50 : a5 = 0 := by omega
        have q8' : rl 0 a6 (u 92) (u 93) s := by rw [← a50]; exact q8
        have p1 := rl_pq q8' (by omega) (by omega)
        have e' : y2 = (a5, a6) := e
        have st : cv_st val (scv (w 79 (800 * a1 + 50 + 2 * a7)) (w 79 (800 * a1 + 50 + 2 * a7 + 1))) (q0, s) = (q0, cv_ps (cv_pp s).2 (1 - u 93 (a6 - 1))) := by
          have sc : scv (w 79 (800 * a1 + 50 + 2 * a7)) (w 79 (800 * a1 + 50 + 2 * a7 + 1)) = 20008 := by
            unfold scv
            rw [if_neg (by omega), if_neg (by omega), if_neg (by omega), if_neg (by omega), if_neg (by omega), o]
            rfl
          rw [sc, cv_st_w (by decide) (by decide) (by decide), ← p1.1]
          rfl
        have nt : ∀ v, (v = 0 ∨ v = 1) → 1 - u 93 (a6 - 1) = v → ck_At (ch_C g A R) (d + 2) mX12_isSo K 346 [some (.inr (.inr 76)), none, none, some (.inl (800 * a1 + 1 + 3 * a2)), some (.inl (800 * a1 + 50)), some (.inl a5), some (.inl a6), some (.inl a7), none, none] [] (ck_up u 93 (a6 - 1) v) := fun v hvv ev => by
          rw [ev] at st
          refine go _ _ _ _ e' (fun k k1 k2 => by rw [ck_up_ne k2]) (fun j j0 j1 => by omega) (fun j j0 j1 => ?_) (by omega) ?_ st
          · by_cases e : j = a6 - 1
            · subst e; rw [ck_up_eq]; exact hvv
            · rw [ck_up_nj e]; exact q6 j j0 (by omega)
          · rw [ck_up_row, ck_up_ne (by decide), a50]
            have r := rl_pt (v := v) p1.2 (by omega) (by omega)
            rw [show a6 - 1 + 1 = a6 by omega] at r
            exact r
        have tb := q6 (a6 - 1) (by omega) (by omega)
        refine ⟨fun _ => ⟨fun _ => ⟨fun _ => ⟨fun _ => ⟨fun z => absurd o z, fun _ => ⟨by omega, fun y => nt 0 (by decide) (by omega), fun y => nt 1 (by decide) (by omega)⟩⟩, fun z => absurd (by omega) z⟩, fun z => absurd (by omega) z⟩, fun z => absurd z (by omega)⟩, fun z => absurd (by omega) z⟩
      · have a50 : a5 = 0 := by omega
        have q8' : rl 0 a6 (u 92) (u 93) s := by rw [← a50]; exact q8
        have p1 := rl_pq q8' (by omega) (by omega)
        have p2 := rl_pq p1.2 (by omega) (by omega)
        have e' : y2 = (a5, a6 + -1) := e
        have st : cv_st val (scv (w 79 (800 * a1 + 50 + 2 * a7)) (w 79 (800 * a1 + 50 + 2 * a7 + 1))) (q0, s) = (q0, cv_ps (cv_pp (cv_pp s).2).2 (cv_as (28 - w 79 (800 * a1 + 50 + 2 * a7)) (u 93 (a6 + -1 - 1)) (u 93 (a6 + -1)))) := by
          have sc : scv (w 79 (800 * a1 + 50 + 2 * a7)) (w 79 (800 * a1 + 50 + 2 * a7 + 1)) = 20028 - w 79 (800 * a1 + 50 + 2 * a7) := by
            unfold scv
            rw [if_neg (by omega), if_neg (by omega), if_neg (by omega), if_neg (by omega), if_neg (by omega)]
          rw [sc, cv_st_w (by omega) (by omega) (by omega), show 20028 - w 79 (800 * a1 + 50 + 2 * a7) - 20000 = 28 - w 79 (800 * a1 + 50 + 2 * a7) by omega]
          unfold cv_wk
          rw [if_neg (by omega), if_neg (by omega), if_neg (by omega), p2.1, p1.1, show a6 - 1 - 1 = a6 + -1 - 1 by omega, show a6 - 1 = a6 + -1 by omega]
        have nt : ∀ v, (v = 0 ∨ v = 1) → cv_as (28 - w 79 (800 * a1 + 50 + 2 * a7)) (u 93 (a6 + -1 - 1)) (u 93 (a6 + -1)) = v → ck_At (ch_C g A R) (d + 2) mX12_isSo K 346 [some (.inr (.inr 76)), none, none, some (.inl (800 * a1 + 1 + 3 * a2)), some (.inl (800 * a1 + 50)), some (.inl a5), some (.inl (a6 + -1)), some (.inl a7), none, none] [] (ck_up u 93 (a6 + -1 - 1) v) := fun v hvv ev => by
          rw [ev] at st
          refine go _ _ _ _ e' (fun k k1 k2 => by rw [ck_up_ne k2]) (fun j j0 j1 => by omega) (fun j j0 j1 => ?_) (by omega) ?_ st
          · by_cases e : j = a6 + -1 - 1
            · subst e; rw [ck_up_eq]; exact hvv
            · rw [ck_up_nj e]; exact q6 j j0 (by omega)
          · rw [ck_up_row, ck_up_ne (by decide), a50]
            have r := rl_pt (v := v) p2.2 (by omega) (by omega)
            rw [show a6 - 1 - 1 + 1 = a6 + -1 by omega, show a6 - 1 - 1 = a6 + -1 - 1 by omega] at r
            exact r
        have tb1 := q6 (a6 + -1 - 1) (by omega) (by omega)
        have tb2 := q6 (a6 + -1) (by omega) (by omega)
        have k22 : ¬ w 79 (800 * a1 + 50 + 2 * a7) = 21 → cv_as (28 - w 79 (800 * a1 + 50 + 2 * a7)) (u 93 (a6 + -1 - 1)) (u 93 (a6 + -1)) = (if u 93 (a6 + -1 - 1) + u 93 (a6 + -1) ≤ 0 then 0 else 1) := fun y => by
          rw [show 28 - w 79 (800 * a1 + 50 + 2 * a7) = 6 by omega]
          rfl
        have k21 : w 79 (800 * a1 + 50 + 2 * a7) = 21 → cv_as (28 - w 79 (800 * a1 + 50 + 2 * a7)) (u 93 (a6 + -1 - 1)) (u 93 (a6 + -1)) = (if u 93 (a6 + -1 - 1) + u 93 (a6 + -1) ≤ 1 then 0 else 1) := fun y => by
          rw [show 28 - w 79 (800 * a1 + 50 + 2 * a7) = 7 by omega]
          rfl
        refine ⟨fun _ => ⟨fun _ => ⟨fun _ => ⟨fun _ => ⟨fun _ => ⟨by constructor <;> omega, fun y => ⟨by omega, fun z => nt 1 (by decide) (by rw [k22 y, if_neg (by omega)]), fun z => ⟨by omega, fun z2 => nt 0 (by decide) (by rw [k22 y, if_pos (by omega)]), fun z2 => nt 1 (by decide) (by rw [k22 y, if_neg (by omega)])⟩⟩, fun y => ⟨by omega, fun z => nt 0 (by decide) (by rw [k21 y, if_pos (by omega)]), fun z => ⟨by omega, fun z2 => nt 0 (by decide) (by rw [k21 y, if_pos (by omega)]), fun z2 => nt 1 (by decide) (by rw [k21 y, if_neg (by omega)])⟩⟩⟩, fun z => absurd z (by omega)⟩, fun z => absurd (by omega) z⟩, fun z => absurd (by omega) z⟩, fun z => absurd z (by omega)⟩, fun z => absurd (by omega) z⟩
  refine e_X12_isSo hC (fun x ex => ?_)
  subst ex
  refine ⟨by constructor <;> omega, by constructor <;> omega, by omega, ?_⟩
  rw [e2]
  have z0 : (w 79 (800 * a1 + 2 + 3 * a2) - w 79 (800 * a1 + 2 + 3 * a2)).toNat = 0 := by omega
  exact l (w 79 (800 * a1 + 3 + 3 * a2) - w 79 (800 * a1 + 2 + 3 * a2)).toNat 0 0 _ w s0 (by omega) (by omega) (fun _ _ _ => rfl) (by rw [z0]; rfl) (by rw [z0]; rfl) (fun j j0 j1 => by omega) (fun j j0 j1 => by omega) (by decide) ⟨by rw [hd]; rfl, fun j j0 j1 => by omega, fun j j0 j1 => by omega⟩ (by rw [z0]; rfl)
