/-! ===== the reference: walks explained, exact ===== -/
theorem cx_nx_m {f : Int → Int} {s : Int} (a : f (s - 1) ≤ f s) (b : f (s - 1) ≤ f (s + 1)) : cx_nx f s = s - 1 := by
  unfold cx_nx
  rw [if_neg (show ¬ f s < f (s - 1) by omega), if_neg (by omega)]
theorem cx_nx_0 {f : Int → Int} {s : Int} (a : f s < f (s - 1)) (b : f s ≤ f (s + 1)) : cx_nx f s = s := by
  unfold cx_nx
  rw [if_pos a, if_neg (by omega)]
theorem cx_nx_p {f : Int → Int} {s : Int} (a : f (s + 1) < f (s - 1)) (b : f (s + 1) < f s) : cx_nx f s = s + 1 := by
  unfold cx_nx
  by_cases q : f s < f (s - 1)
  · rw [if_pos q, if_pos b]
  · rw [if_neg q, if_pos a]
theorem cx_nx_min {f : Int → Int} {s : Int} : f (cx_nx f s) = min (min (f s) (f (s - 1))) (f (s + 1)) := by
  by_cases p : f (s + 1) < f (s - 1) ∧ f (s + 1) < f s
  · rw [cx_nx_p p.1 p.2]; omega
  · by_cases q : f s < f (s - 1)
    · rw [cx_nx_0 q (by omega)]; omega
    · rw [cx_nx_m (by omega) (by omega)]; omega
theorem cx_nx_3 {F : Int → Int} {a x P0 Pm Pp : Int} (F0 : F a = P0) (F1 : F (a - 1) = Pm) (F2 : F (a + 1) = Pp) (xe : x = min (min P0 Pm) Pp) : (Pm = x → cx_nx F a = a - 1) ∧ (¬ Pm = x → P0 = x → cx_nx F a = a) ∧ (¬ Pm = x → ¬ P0 = x → cx_nx F a = a + 1 ∧ Pp = x) := by
  refine ⟨fun y => cx_nx_m (by omega) (by omega), fun y1 y2 => cx_nx_0 (by omega) (by omega), fun y1 y2 => ⟨cx_nx_p (by omega) (by omega), by omega⟩⟩
theorem rs_L {w0 w : ck_W} {z p n : Int} (h : rm_rs w0 w z p n 0) : ∀ (m : Nat) (t s : Int), t + m + 1 = n → 0 ≤ t → -t ≤ s → s ≤ t → w 88 (61 * t + 30 + s) = cx_L (w0 77 7) (rm_ct w0 z p) m t s
  | 0, t, s, h0, h1, h2, h3 => by
    have o := (h t s h1 (by omega) h2 h3).2.1 (by omega)
    rw [cx_L, o]
    omega
  | m + 1, t, s, h0, h1, h2, h3 => by
    have o := (h t s h1 (by omega) h2 h3).2.2 (by omega)
    have i0 := rs_L h m (t + 1) s (by omega) (by omega) (by omega) (by omega)
    have i1 := rs_L h m (t + 1) (s - 1) (by omega) (by omega) (by omega) (by omega)
    have i2 := rs_L h m (t + 1) (s + 1) (by omega) (by omega) (by omega) (by omega)
    rw [show 61 * (t + 1) + 30 + (s - 1) = 61 * (t + 1) + 30 + s + -1 by omega] at i1
    rw [show 61 * (t + 1) + 30 + (s + 1) = 61 * (t + 1) + 30 + s + 1 by omega] at i2
    rw [cx_L]
    generalize hF : (fun x => cx_L (w0 77 7) (rm_ct w0 z p) m (t + 1) x + if x = s then 0 else w0 77 7) = F
    have e0 : F s = cx_L (w0 77 7) (rm_ct w0 z p) m (t + 1) s := by
      rw [← hF]; dsimp only; rw [if_pos rfl]; omega
    have e1 : F (s - 1) = cx_L (w0 77 7) (rm_ct w0 z p) m (t + 1) (s - 1) + w0 77 7 := by
      rw [← hF]; dsimp only; rw [if_neg (by omega)]
    have e2 : F (s + 1) = cx_L (w0 77 7) (rm_ct w0 z p) m (t + 1) (s + 1) + w0 77 7 := by
      rw [← hF]; dsimp only; rw [if_neg (by omega)]
    have eF : cx_L (w0 77 7) (rm_ct w0 z p) m (t + 1) (cx_nx F s) + (if cx_nx F s = s then 0 else w0 77 7) = F (cx_nx F s) := by rw [← hF]
    have mn := cx_nx_min (f := F) (s := s)
    rw [eF, mn, e0, e1, e2, o, i0, i1, i2]
    omega
/-- what is answered of a walk, out of what steps cost -/
def rx_an (A : Nat) (J n T : Int) (c : Int → Int → Int) (p what : Int) : Int := if what = 0 then cx_L J c (n - 1).toNat 0 0 else if what = 1 then cx_ct (fun t => cx_ov J n c t.toNat) (n - 1).toNat 1 0 else if 0 ≤ p + (what - 100) + (A : Int) * cx_ov J n c (what - 100).toNat ∧ p + (what - 100) + (A : Int) * cx_ov J n c (what - 100).toNat < T then p + (what - 100) + (A : Int) * cx_ov J n c (what - 100).toNat else -1000
theorem cx_an_e (A : Nat) (w : ck_W) (z p what : Int) : cx_an A w z p what = rx_an A (w 8 2) (w 8 1) (w 6 z * (A : Int)) (cx_c A w z p) p what := rfl
set_option maxHeartbeats 4000000 in
theorem M2_walked {g : ch_G} {A R : Nat} (hC : ck_Cx g A R) {d : Nat} {K : Option ck_V → ck_W → Prop} {w : ck_W} {a1 a2 a3 : Int} {cp : Int → Int → Int} (hI : rm_I A R w) (hc : rm_cps w cp)
    (h1 : ((0 ≤ a1 ∧ a1 ≤ 5) ∧ (0 ≤ a2 ∧ a2 < w 77 (10 + a1) * (A : Int)) ∧ 1 ≤ w 77 2 ∧ ((0 ≤ a3 ∧ a3 ≤ 1) ∨ (100 ≤ a3 ∧ a3 ≤ 99 + w 77 2))) → ∀ w1 w2, rm_q w w1 → rm_q w w2 → rm_w2 A R w a1 (w 77 (10 + a1) * A) (cp a1) w1 → 0 ≤ w1 83 a1 → K (some (.inl (rx_an A (w 77 7) (w 77 2) (w 77 (10 + a1) * (A : Int)) (rm_ct w1 a1 a2) a2 a3))) w2)
    (h0 : ∀ w', rm_q w w' → (((0 ≤ a1 ∧ a1 ≤ 5) ∧ (0 ≤ a2 ∧ a2 < w 77 (10 + a1) * (A : Int)) ∧ 1 ≤ w 77 2 ∧ ((0 ≤ a3 ∧ a3 ≤ 1) ∨ (100 ≤ a3 ∧ a3 ≤ 99 + w 77 2))) → rm_w2 A R w a1 (w 77 (10 + a1) * A) (cp a1) w' ∧ w' 83 a1 < 0) → K (some (.inl (-1000))) w') : ck_Ex (ch_C g A R) (d + 6) mX12_walked [.inr (.inr 76), .inl a1, .inl a2, .inl a3] w K := by
  have c := rm_cp hC hI
  have f0 := rm_c0 hI.2.2.2.1
  have no : ¬ ((0 ≤ a1 ∧ a1 ≤ 5) ∧ (0 ≤ a2 ∧ a2 < w 77 (10 + a1) * (A : Int)) ∧ 1 ≤ w 77 2 ∧ ((0 ≤ a3 ∧ a3 ≤ 1) ∨ (100 ≤ a3 ∧ a3 ≤ 99 + w 77 2))) → K (some (.inl (-1000))) w := fun q => h0 w rm_q_rf (fun y => absurd y q)
  have main : ((0 ≤ a1 ∧ a1 ≤ 5) ∧ (0 ≤ a2 ∧ a2 < w 77 (10 + a1) * (A : Int)) ∧ 1 ≤ w 77 2 ∧ ((0 ≤ a3 ∧ a3 ≤ 1) ∨ (100 ≤ a3 ∧ a3 ≤ 99 + w 77 2))) → ck_At (ch_C g A R) (d + 6) mX12_walked K 62 [some (.inr (.inr 76)), some (.inl a1), some (.inl a2), some (.inl a3), none, none, none, none, none] [] w := by
    intro rg
    obtain ⟨q1, q2, q0, qa⟩ := rg
    have rg : ((0 ≤ a1 ∧ a1 ≤ 5) ∧ (0 ≤ a2 ∧ a2 < w 77 (10 + a1) * (A : Int)) ∧ 1 ≤ w 77 2 ∧ ((0 ≤ a3 ∧ a3 ≤ 1) ∨ (100 ≤ a3 ∧ a3 ≤ 99 + w 77 2))) := ⟨q1, q2, q0, qa⟩
    have pb := rm_pb hC hI q1.1 q1.2
    rw [c.1] at pb
    refine r_X12_walked_62 hC (S2_X12_wind hC (cp := cp a1) hI q1 (hc.1 a1) (fun p => hc.2 a1 p q1) (fun w1 i1 i2 i3 i4 i5 => ⟨rfl, ?_⟩))
    have qq := rm_q_wf i1
    refine ⟨by omega, fun z => ?_, fun y => h0 _ qq (fun _ => ⟨i5, by omega⟩)⟩
    have I1 := rm_I_q hI qq
    have sp : rm_sp R a1 w1 := fun p p0 p1 => i4.2.2 z p p0 (by rw [qq.1, qq.2.1, c.1] at p1; exact p1)
    refine S_X12_explain hC I1 q1 (by omega) sp (fun w2 j1 j2 => ⟨rfl, ?_⟩)
    have q3 : rm_q w w2 := rm_q_tr qq ⟨j1 76 (by decide), j1 77 (by decide), j1 78 (by decide), j1 79 (by decide), fun k hk => j1 k (by omega)⟩
    have I2 := rm_I_q hI q3
    have sp2 : rm_sp R a1 w2 := by unfold rm_sp; rw [j1 76 (by decide), j1 77 (by decide), j1 85 (by decide)]; exact sp
    have ce : ∀ t s, rm_ct w2 a1 a2 t s = rm_ct w1 a1 a2 t s := fun t s => rm_ct_c (j1 76 (by decide)) (j1 77 (by decide)) (j1 85 (by decide))
    have e77 := q3.2.1
    have e76 := q3.1
    rw [qq.2.1] at j2
    have k := h1 rg w1 w2 qq q3 i5 z
    have J7 : w1 77 7 = w 77 7 := by rw [qq.2.1]
    have L : ∀ (m : Nat) (t s : Int), t + m + 1 = w 77 2 → 0 ≤ t → -t ≤ s → s ≤ t → w2 88 (61 * t + 30 + s) = cx_L (w 77 7) (rm_ct w1 a1 a2) m t s := fun m t s x1 x2 x3 x4 => by
      rw [← J7]
      exact rs_L j2 m t s x1 x2 x3 x4
    have obA := cx_ovb (w 77 7) (w 77 2) (rm_ct w1 a1 a2)
    unfold rx_an at k
    refine ⟨fun z0 => ?_, fun z0 => ?_⟩
    rotate_left
    · rw [if_pos z0] at k
      have l := L (w 77 2 - 1).toNat 0 0 (by omega) (by omega) (by omega) (by omega)
      rw [show (61 : Int) * 0 + 30 + 0 = 30 by decide] at l
      rw [l]
      exact k
    rw [if_neg z0] at k
    -- behind a step: the place told, or the next
    have told : ∀ a4 a5 a6, 0 ≤ a6 → a6 < w 77 2 → a4 = cx_ov (w 77 7) (w 77 2) (rm_ct w1 a1 a2) a6.toNat → (¬ a3 - 100 = a6 → ck_At (ch_C g A R) (d + 6) mX12_walked K 107 [some (.inr (.inr 76)), some (.inl a1), some (.inl a2), some (.inl a3), some (.inl a4), some (.inl a5), some (.inl (a6 + 1)), none, none] [] w2) → ck_At (ch_C g A R) (d + 6) mX12_walked K 228 [some (.inr (.inr 76)), some (.inl a1), some (.inl a2), some (.inl a3), some (.inl a4), some (.inl a5), some (.inl a6), none, none] [] w2 := by
      intro a4 a5 a6 b1 b2 b3 nx
      have ob := obA a6.toNat
      have mb := rm_mb (a := w 76 0) (s := a4) (by omega) (by omega)
      refine r_X12_walked_228 hC ?_
      rw [e76, e77, c.1]
      rw [c.1] at mb
      refine ⟨by constructor <;> omega, fun y => fun x ex => ⟨by constructor <;> omega, by omega, by constructor <;> omega, by constructor <;> omega, fun y2 => ?_, fun y2 => ?_⟩, fun y => ⟨by constructor <;> omega, nx y⟩⟩
      · rw [if_neg (by omega), y, ← b3, ← ex, if_pos (by omega)] at k
        exact k
      · rw [if_neg (by omega), y, ← b3, ← ex, if_neg (by omega)] at k
        exact k
    have l : ∀ (m : Nat) (a4 a5 a6 : Int), w 77 2 - a6 = m → 1 ≤ a6 → a4 = cx_ov (w 77 7) (w 77 2) (rm_ct w1 a1 a2) (a6 - 1).toNat → (0 ≤ a5 ∧ a5 ≤ 100 * a6) → (a3 = 1 ∨ a6 ≤ a3 - 100) → (a3 = 1 → K (some (.inl (cx_ct (fun t => cx_ov (w 77 7) (w 77 2) (rm_ct w1 a1 a2) t.toNat) m a6 a5))) w2) → ck_At (ch_C g A R) (d + 6) mX12_walked K 107 [some (.inr (.inr 76)), some (.inl a1), some (.inl a2), some (.inl a3), some (.inl a4), some (.inl a5), some (.inl a6), none, none] [] w2 := by
      intro m
      induction m with
      | zero =>
        intro a4 a5 a6 b1 b2 b3 b4 b5 kk
        refine r_X12_walked_107 hC ⟨fun _ => ?_, fun y => absurd (by rw [e77]; omega) y⟩
        have k2 := kk (by omega)
        rw [cx_ct] at k2
        exact k2
      | succ m ih =>
        intro a4 a5 a6 b1 b2 b3 b4 b5 kk
        have ob := obA (a6 - 1).toNat
        rw [← b3] at ob
        have ovs : cx_ov (w 77 7) (w 77 2) (rm_ct w1 a1 a2) a6.toNat = cx_nx (fun x => cx_L (w 77 7) (rm_ct w1 a1 a2) m a6 x + if x = a4 then 0 else w 77 7) a4 := by
          rw [show a6.toNat = (a6 - 1).toNat + 1 by omega, cx_ov, ← b3, show (((a6 - 1).toNat : Nat) : Int) + 1 = a6 by omega, show (w 77 2 - 2 - (((a6 - 1).toNat : Nat) : Int)).toNat = m by omega]
        have nx : ∀ s' v', s' = cx_ov (w 77 7) (w 77 2) (rm_ct w1 a1 a2) a6.toNat → v' = (if s' = a4 then a5 else a5 + 1) → ck_At (ch_C g A R) (d + 6) mX12_walked K 228 [some (.inr (.inr 76)), some (.inl a1), some (.inl a2), some (.inl a3), some (.inl s'), some (.inl v'), some (.inl a6), none, none] [] w2 := by
          intro s' v' x1 x2
          refine told s' v' a6 (by omega) (by omega) x1 (fun y => ih s' v' (a6 + 1) (by omega) (by omega) (by rw [show a6 + 1 - 1 = a6 by omega]; exact x1) (by split at x2 <;> omega) (by omega) (fun e => ?_))
          have k2 := kk e
          rw [cx_ct] at k2
          rw [← x1, ← b3, ← x2] at k2
          exact k2
        refine r_X12_walked_107 hC ⟨fun y => absurd y (by rw [e77]; omega), fun _ => ⟨fun y => absurd y (by omega), fun _ => ⟨by omega, by constructor <;> omega, ?_⟩⟩⟩
        refine S_X12_stepCost hC I2 q1 (by omega) (by omega) (by omega) sp2 ⟨_, rfl, fun _ => fun x ex => ?_⟩
        rw [ce] at ex
        have o := j2 (a6 - 1) a4 (by omega) (by omega) (by omega) (by omega)
        have o3 := o.2.2 (by omega)
        rw [show a6 - 1 + 1 = a6 by omega, qq.2.1] at o3
        have xe : x = min (min (w2 88 (61 * a6 + 30 + a4)) (w2 88 (61 * a6 + 30 + a4 + -1) + w 77 7)) (w2 88 (61 * a6 + 30 + a4 + 1) + w 77 7) := by omega
        have c0 := (j2 a6 a4 (by omega) (by omega) (by omega) (by omega)).1
        have c1 := (j2 a6 (a4 - 1) (by omega) (by omega) (by omega) (by omega)).1
        have c2 := (j2 a6 (a4 + 1) (by omega) (by omega) (by omega) (by omega)).1
        have L0 := L m a6 a4 (by omega) (by omega) (by omega) (by omega)
        have L1 := L m a6 (a4 - 1) (by omega) (by omega) (by omega) (by omega)
        have L2 := L m a6 (a4 + 1) (by omega) (by omega) (by omega) (by omega)
        rw [show 61 * a6 + 30 + (a4 - 1) = 61 * a6 + 30 + a4 + -1 by omega] at c1 L1
        rw [show 61 * a6 + 30 + (a4 + 1) = 61 * a6 + 30 + a4 + 1 by omega] at c2 L2
        generalize hF : (fun x => cx_L (w 77 7) (rm_ct w1 a1 a2) m a6 x + if x = a4 then 0 else w 77 7) = F at ovs
        have F0 : F a4 = w2 88 (61 * a6 + 30 + a4) := by rw [← hF, L0]; dsimp only; rw [if_pos rfl]; omega
        have F1 : F (a4 - 1) = w2 88 (61 * a6 + 30 + a4 + -1) + w 77 7 := by rw [← hF, L1]; dsimp only; rw [if_neg (by omega)]
        have F2 : F (a4 + 1) = w2 88 (61 * a6 + 30 + a4 + 1) + w 77 7 := by rw [← hF, L2]; dsimp only; rw [if_neg (by omega)]
        have J0 : 0 ≤ w 77 7 ∧ w 77 7 ≤ 99 := by omega
        have N := cx_nx_3 F0 F1 F2 xe
        rw [← ovs] at N
        clear F0 F1 F2 hF L0 L1 L2
        refine ⟨by constructor <;> omega, ?_⟩
        -- from the least change on
        have t2 : ¬ w2 88 (61 * a6 + 30 + a4 + -1) + w 77 7 = x → ¬ w2 88 (61 * a6 + 30 + a4) = x → ck_At (ch_C g A R) (d + 6) mX12_walked K 159 [some (.inr (.inr 76)), some (.inl a1), some (.inl a2), some (.inl a3), some (.inl a4), some (.inl a5), some (.inl a6), some (.inl x), some (.inl (0 + 1))] [] w2 := fun n1 n2 => by
          refine r_X12_walked_159 hC ?_
          rw [e77, show 61 * a6 + 30 + a4 + (0 + 1) = 61 * a6 + 30 + a4 + 1 by omega]
          exact ⟨by omega, fun _ => ⟨by constructor <;> omega, fun _ => ⟨by constructor <;> omega, fun _ => ⟨by constructor <;> omega, nx _ _ (by rw [(N.2.2 n1 n2).1]; rfl) (by rw [if_neg (by omega)])⟩, fun y => absurd y (by decide)⟩, fun y => absurd (N.2.2 n1 n2).2 y⟩, fun y => absurd y (by decide)⟩
        have t1 : ¬ w2 88 (61 * a6 + 30 + a4 + -1) + w 77 7 = x → ck_At (ch_C g A R) (d + 6) mX12_walked K 159 [some (.inr (.inr 76)), some (.inl a1), some (.inl a2), some (.inl a3), some (.inl a4), some (.inl a5), some (.inl a6), some (.inl x), some (.inl (-1 + 1))] [] w2 := fun n1 => by
          refine r_X12_walked_159 hC ?_
          rw [e77, show 61 * a6 + 30 + a4 + (-1 + 1) = 61 * a6 + 30 + a4 by omega]
          exact ⟨by omega, fun y => absurd (by decide) y, fun _ => ⟨by constructor <;> omega, fun y1 => ⟨by constructor <;> omega, fun y => absurd (by decide) y, fun _ => ⟨by constructor <;> omega, nx _ _ (by rw [N.2.1 n1 (by rw [← y1]; exact (Int.add_zero _).symm)]; exact Int.add_zero _) (by rw [if_pos (show a4 + (-1 + 1) = a4 from Int.add_zero _)]; exact Int.add_zero _)⟩⟩, fun y => ⟨by decide, t2 n1 (by omega)⟩⟩⟩
        refine r_X12_walked_159 hC ?_
        rw [e77]
        exact ⟨by omega, fun _ => ⟨by constructor <;> omega, fun y1 => ⟨by constructor <;> omega, fun _ => ⟨by constructor <;> omega, nx _ _ (by rw [N.1 y1]; rfl) (by rw [if_neg (by omega)])⟩, fun y => absurd y (by decide)⟩, fun y => ⟨by decide, t1 y⟩⟩, fun y => absurd y (by decide)⟩
    refine r_X12_walked_107 hC ⟨fun y => absurd y (by rw [e77]; omega), fun _ => ⟨fun _ => ?_, fun y => absurd (by decide) y⟩⟩
    refine told 0 0 0 (by omega) (by omega) (by rw [show (0 : Int).toNat = 0 from rfl, cx_ov]) (fun y => l (w 77 2 - 1).toNat 0 0 (0 + 1) (by omega) (by omega) (by rw [show ((0 : Int) + 1 - 1).toNat = 0 by decide, cx_ov]) (by omega) (by omega) (fun e => ?_))
    rw [if_pos e] at k
    exact k
  refine e_X12_walked hC ⟨fun q1 => ?_, fun q => no (fun x => q x.1)⟩
  have pb := rm_pb hC hI q1.1 q1.2
  rw [c.1] at pb ⊢
  exact ⟨by omega, by constructor <;> omega, by constructor <;> omega, fun q2 => ⟨fun q3 => no (fun x => by have := x.2.2.1; omega), fun q3 => ⟨fun q4 => main ⟨q1, by omega, by omega, Or.inl q4⟩, fun q4 => ⟨by constructor <;> omega, fun q5 => main ⟨q1, by omega, by omega, Or.inr q5⟩, fun q5 => no (fun x => by rcases x.2.2.2 with y | y; exact q4 y; exact q5 y)⟩⟩⟩, fun q2 => no (fun x => q2 (by have := x.2.1; omega))⟩
