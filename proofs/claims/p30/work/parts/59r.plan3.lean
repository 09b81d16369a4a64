/-! ===== the reference's plan, exact; both find the same ===== -/
def qk_b (s : Int) : Nat → Bool := fun k => s.toNat.testBit k
theorem qk_bit {s k : Int} (h0 : 0 ≤ s) (h1 : s < 65536) (k0 : 0 ≤ k) (k1 : k < 16) : ck_and (ck_shr s k) 1 = if qk_b s k.toNat = true then 1 else 0 := by
  obtain ⟨a, rfl⟩ := kb_nat h0
  obtain ⟨b, rfl⟩ := kb_nat k0
  have l : a / 2 ^ b ≤ a := Nat.div_le_self _ _
  rw [kb_shr (by omega) (by omega), show (1 : Int) = ((1 : Nat) : Int) from rfl, kb_and (by omega), Nat.and_one_is_mod]
  unfold qk_b
  rw [Int.toNat_natCast, Int.toNat_natCast, Nat.testBit_eq_decide_div_mod_eq]
  have m := Nat.mod_lt (a / 2 ^ b) (show 0 < 2 by decide)
  generalize a / 2 ^ b % 2 = y at *
  by_cases q : y = 1
  · rw [q]; rfl
  · rw [show y = 0 by omega]; rfl
/-- a set's number -/
def qk_n (b : Nat → Bool) : Nat → Nat
  | 0 => 0
  | n + 1 => if b n = true then 2 ^ n + qk_n b n else qk_n b n
theorem qk_nl (b : Nat → Bool) : ∀ n, qk_n b n < 2 ^ n
  | 0 => by rw [qk_n]; decide
  | n + 1 => by
    have i := qk_nl b n
    rw [qk_n, Nat.pow_succ]
    split <;> omega
theorem qk_nb (b : Nat → Bool) : ∀ n k, (qk_n b n).testBit k = (decide (k < n) && b k)
  | 0, k => by rw [qk_n, Nat.zero_testBit, decide_eq_false (by omega)]; rfl
  | n + 1, k => by
    have l := qk_nl b n
    have i := qk_nb b n k
    rw [qk_n]
    by_cases e : k = n
    · subst e
      have z : (qk_n b k).testBit k = false := Nat.testBit_lt_two_pow l
      by_cases q : b k = true
      · rw [if_pos q, Nat.testBit_two_pow_add_eq, z, q, decide_eq_true (show k < k + 1 by omega)]; rfl
      · rw [if_neg q, z, show b k = false by revert q; cases b k <;> simp]
        simp
    · by_cases h : k < n
      · have r : (decide (k < n + 1) && b k) = (decide (k < n) && b k) := by rw [decide_eq_true h, decide_eq_true (show k < n + 1 by omega)]
        rw [r, ← i]
        by_cases q : b n = true
        · rw [if_pos q, Nat.testBit_two_pow_add_gt h]
        · rw [if_neg q]
      · have x : (if b n = true then 2 ^ n + qk_n b n else qk_n b n) < 2 ^ k := by
          have p : 2 ^ (n + 1) ≤ 2 ^ k := Nat.pow_le_pow_right (by decide) (by omega)
          rw [Nat.pow_succ] at p
          split <;> omega
        rw [Nat.testBit_lt_two_pow x, decide_eq_false (by omega)]; rfl
theorem qk_ni {s n : Nat} (h : s < 2 ^ n) : qk_n s.testBit n = s := by
  refine Nat.eq_of_testBit_eq (fun k => ?_)
  rw [qk_nb]
  by_cases q : k < n
  · rw [decide_eq_true q]; simp
  · have p : 2 ^ n ≤ 2 ^ k := Nat.pow_le_pow_right (by decide) (by omega)
    rw [decide_eq_false q, Nat.testBit_lt_two_pow (show s < 2 ^ k by omega)]; rfl
theorem qk_sG {W : Int → Int} {b : Nat → Bool} : ∀ n, n ≤ 16 → qk_s (qk_G W) b n = 65536 * qk_s W b n - (qk_n b n : Nat)
  | 0, _ => rfl
  | n + 1, h => by
    have i := qk_sG (W := W) (b := b) n (by omega)
    have e : ck_shl 1 (n : Int) = ((2 ^ n : Nat) : Int) := by rw [kb_shl1 (by omega) (by omega)]; simp
    rw [qk_s, qk_s, qk_n, i]
    unfold qk_G
    rw [e]
    by_cases q : b n = true
    · rw [if_pos q, if_pos q, if_pos q]; omega
    · rw [if_neg q, if_neg q, if_neg q]; omega
theorem qk_uC {L L' : Int → Int} {n : Nat} {b c : Nat → Bool} (h : ∀ k : Nat, k < n → b k = c k ∧ L k = L' k) (i : Int) : qk_u L b n i ↔ qk_u L' c n i :=
  ⟨fun ⟨k, k1, k2, k3⟩ => ⟨k, k1, by rw [← (h k k1).1]; exact k2, by rw [← (h k k1).2]; exact k3⟩, fun ⟨k, k1, k2, k3⟩ => ⟨k, k1, by rw [(h k k1).1]; exact k2, by rw [(h k k1).2]; exact k3⟩⟩
theorem qk_hC {H H' L L' F F' : Int → Int} {n : Nat} {b c : Nat → Bool} (hb : ∀ k : Nat, k < n → b k = c k) (hH : ∀ k : Nat, k < n → H k = H' k) (hL : ∀ k : Nat, k < n → L k = L' k) (hF : ∀ i, 0 ≤ i → i < 4 → F i = F' i) : qk_h H L F n b = qk_h H' L' F' n c := by
  unfold qk_h
  rw [qk_sc n (fun k hk => ⟨hb k hk, hH k hk⟩), qk_fF hF, qk_fc (fun i _ _ => qk_uC (fun k hk => ⟨hb k hk, hL k hk⟩) i)]
/-- of the sets by so many hours the one of the greatest worth, of like ones of fewest hours, then the lowest -/
def qk_best (hr wo : Int → Int) (M N s : Int) : Prop := (0 ≤ s ∧ s < N) ∧ hr s ≤ M ∧ ∀ t, 0 ≤ t → t < N → hr t ≤ M → wo t < wo s ∨ (wo t = wo s ∧ (hr s < hr t ∨ (hr s = hr t ∧ s ≤ t)))
theorem qk_end {H L F W f : Int → Int} {n : Nat} {M s : Int} (hn : n ≤ 16) (hM : 0 ≤ M) (h0 : ∀ b, 0 ≤ qk_h H L F n b) (hG : ∀ b, 0 ≤ qk_s (qk_G W) b n) (hW : ∀ b, 0 ≤ qk_s W b n) (hV : qk_V (fun k => k < n) (qk_h H L F n) (qk_G W) n M f) (hB : qk_best (fun t => qk_h H L F n (qk_b t)) (fun t => qk_s W (qk_b t) n) M ((2 ^ n : Nat) : Int) s) : cs_hb f M.toNat 1 0 = qk_h H L F n (qk_b s) ∧ cs_wo (f (qk_h H L F n (qk_b s))) = qk_s W (qk_b s) n ∧ ¬ f (qk_h H L F n (qk_b s)) = -1 ∧ cs_wo (f (qk_h H L F n (qk_b s))) * 65536 - f (qk_h H L F n (qk_b s)) = s := by
  obtain ⟨⟨s0, s1⟩, sM, sb⟩ := hB
  dsimp only at sM sb
  have p16 : 2 ^ n ≤ 2 ^ 16 := Nat.pow_le_pow_right (by decide) hn
  have gof : ∀ t : Int, 0 ≤ t → t < ((2 ^ n : Nat) : Int) → qk_s (qk_G W) (qk_b t) n = 65536 * qk_s W (qk_b t) n - t := fun t t0 t1 => by
    have e : qk_n (qk_b t) n = t.toNat := qk_ni (by omega)
    rw [qk_sG n hn, e]; omega
  -- what a value says
  have val : ∀ y, 0 ≤ y → y ≤ M → f y = -1 ∨ ∃ t : Int, 0 ≤ t ∧ t < ((2 ^ n : Nat) : Int) ∧ f y = 65536 * qk_s W (qk_b t) n - t ∧ qk_h H L F n (qk_b t) ≤ y := fun y y0 y1 => by
    rcases hV.1 y y0 y1 with e | ⟨b, b1, b2, b3⟩
    · exact Or.inl e
    · have l := qk_nl b n
      have bb : ∀ k : Nat, k < n → b k = qk_b ((qk_n b n : Nat) : Int) k := fun k hk => by
        unfold qk_b
        rw [Int.toNat_natCast, qk_nb, decide_eq_true hk]; rfl
      refine Or.inr ⟨(qk_n b n : Nat), by omega, by omega, ?_, ?_⟩
      · rw [b2, qk_sG n hn, qk_sc (t' := W) (c := qk_b ((qk_n b n : Nat) : Int)) n (fun k hk => ⟨bb k hk, rfl⟩)]
      · rw [← qk_hC bb (fun _ _ => rfl) (fun _ _ => rfl) (fun _ _ _ => rfl)]; exact b3
  have wov : ∀ (t W0 : Int), 0 ≤ t → t < ((2 ^ n : Nat) : Int) → 0 ≤ W0 → 65536 * W0 - t ≠ -1 → cs_wo (65536 * W0 - t) = W0 := fun t W0 t0 t1 w0 ne => by
    unfold cs_wo
    rw [if_neg ne]; omega
  have hs0 := h0 (qk_b s)
  have g0 := hG (qk_b s)
  have gs := gof s s0 s1
  have ws := hW (qk_b s)
  have sup : ∀ k, qk_b s k = true → k < n := fun k hk => by
    by_cases q : k < n
    · exact q
    · have p : 2 ^ n ≤ 2 ^ k := Nat.pow_le_pow_right (by decide) (by omega)
      unfold qk_b at hk
      rw [Nat.testBit_lt_two_pow (show s.toNat < 2 ^ k by omega)] at hk
      exact absurd hk (by decide)
  have fge := hV.2 (qk_b s) sup sM
  -- no value is worth more
  have le : ∀ y, 0 ≤ y → y ≤ M → cs_wo (f y) ≤ qk_s W (qk_b s) n ∧ (cs_wo (f y) = qk_s W (qk_b s) n → qk_h H L F n (qk_b s) ≤ y) := fun y y0 y1 => by
    rcases val y y0 y1 with e | ⟨t, t0, t1, t2, t3⟩
    · rw [e]
      have : cs_wo (-1) = -1 := by decide
      rw [this]; exact ⟨by omega, fun z => absurd z (by omega)⟩
    · have wt := hW (qk_b t)
      by_cases ne : f y = -1
      · rw [ne]
        have : cs_wo (-1) = -1 := by decide
        rw [this]; exact ⟨by omega, fun z => absurd z (by omega)⟩
      · have e := wov t _ t0 t1 wt (by omega)
        rw [← t2] at e
        rw [e]
        have b := sb t t0 t1 (by omega)
        omega
  have at_s : f (qk_h H L F n (qk_b s)) = 65536 * qk_s W (qk_b s) n - s := by
    rcases val _ hs0 sM with e | ⟨t, t0, t1, t2, t3⟩
    · omega
    · have wt := hW (qk_b t)
      have b := sb t t0 t1 (by omega)
      omega
  have wo_s := wov s _ s0 s1 ws (by omega)
  rw [← at_s] at wo_s
  refine ⟨?_, wo_s, by omega, by rw [wo_s]; omega⟩
  have hb := cs_hbb f M.toNat 1 0 (by omega) (by omega)
  have hw := cs_hbw f M.toNat 1 0 (by omega) (by omega) (fun j j0 j1 => by rw [show j = 0 by omega]; exact ⟨Int.le_refl _, fun z => absurd z (by omega)⟩)
  generalize cs_hb f M.toNat 1 0 = r at *
  have x1 := hw (qk_h H L F n (qk_b s)) hs0 (by omega)
  have x2 := le r hb.1 (by omega)
  rw [wo_s] at x1
  have x3 := x2.2 (by omega)
  by_cases q : qk_h H L F n (qk_b s) < r
  · have := x1.2 q; omega
  · omega
def pm_H (f : Int → Int) : Int → Int := fun k => f (1360 + 3 * k)
def pm_W (f : Int → Int) : Int → Int := fun k => f (1360 + 3 * k + 1)
def pm_L (f : Int → Int) : Int → Int := fun k => f (1360 + 3 * k + 2)
def pm_F (f : Int → Int) : Int → Int := fun r => f (1420 + r)
theorem S2_X12_worthOf {g : ch_G} {A R : Nat} (hC : ck_Cx g A R) {d : Nat} {K : Option ck_V → ck_W → Prop} {w : ck_W} {a1 : Int} (hI : rm_I A R w) (ha : 0 ≤ a1 ∧ a1 < 65536) (h : K (some (.inl (qk_s (pm_W (w 77)) (qk_b a1) (w 77 6).toNat))) w) : ck_Ex (ch_C g A R) d mX12_worthOf [.inr (.inr 76), .inl a1] w K := by
  have f0 := rm_c0 hI.2.2.2.1
  have wb : ∀ n : Nat, (n : Int) ≤ w 77 6 → 0 ≤ qk_s (pm_W (w 77)) (qk_b a1) n ∧ qk_s (pm_W (w 77)) (qk_b a1) n ≤ 1000 * n := fun n hn => qk_sb n (fun k hk => by
    have := rm_part1 hI.2.2.2.1 (k := k) (by omega) (by omega)
    unfold pm_W; omega)
  have l1 : ∀ (m n : Nat) (a2 a3 : Int), w 77 6 - a3 = m → a3 = n → a2 = qk_s (pm_W (w 77)) (qk_b a1) n → ck_At (ch_C g A R) d mX12_worthOf K 4 [some (.inr (.inr 76)), some (.inl a1), some (.inl a2), some (.inl a3)] [] w := by
    intro m
    induction m with
    | zero =>
      intro n a2 a3 q1 q2 q3
      refine r_X12_worthOf_4 hC ⟨fun _ => ?_, fun z => absurd (by omega) z⟩
      rw [q3, show n = (w 77 6).toNat by omega]; exact h
    | succ m ih =>
      intro n a2 a3 q1 q2 q3
      have p0 := rm_part1 hI.2.2.2.1 (k := a3) (by omega) (by omega)
      have b0 := wb n (by omega)
      have bt := qk_bit (s := a1) (k := a3) ha.1 ha.2 (by omega) (by omega)
      have en : a3.toNat = n := by omega
      rw [en] at bt
      have st : qk_s (pm_W (w 77)) (qk_b a1) (n + 1) = qk_s (pm_W (w 77)) (qk_b a1) n + (if qk_b a1 n = true then w 77 (1360 + 3 * a3 + 1) else 0) := by rw [qk_s, q2]; rfl
      refine r_X12_worthOf_4 hC ⟨fun z => absurd z (by omega), fun _ => ⟨fun z => ⟨by constructor <;> omega, by constructor <;> omega, ih (n + 1) _ _ (by omega) (by omega) ?_⟩, fun z => ⟨by omega, fun x ex => ⟨by constructor <;> omega, by constructor <;> omega, ih (n + 1) _ _ (by omega) (by omega) ?_⟩⟩⟩⟩
      · rw [bt] at z
        rw [st]
        by_cases y : qk_b a1 n = true
        · rw [if_pos y] at z; exact absurd rfl z
        · rw [if_neg y]; omega
      · rw [bt] at z
        rw [st]
        by_cases y : qk_b a1 n = true
        · rw [if_pos y]; omega
        · rw [if_neg y] at z; exact absurd z (by decide)
  exact e_X12_worthOf hC (l1 (w 77 6).toNat 0 0 0 (by omega) (by omega) rfl)
theorem S2_X12_hoursOf {g : ch_G} {A R : Nat} (hC : ck_Cx g A R) {d : Nat} {K : Option ck_V → ck_W → Prop} {w : ck_W} {a1 : Int} (hI : rm_I A R w) (ha : 0 ≤ a1 ∧ a1 < 65536) (h : K (some (.inl (qk_h (pm_H (w 77)) (pm_L (w 77)) (pm_F (w 77)) (w 77 6).toNat (qk_b a1)))) w) : ck_Ex (ch_C g A R) d mX12_hoursOf [.inr (.inr 76), .inl a1] w K := by
  have f0 := rm_c0 hI.2.2.2.1
  have wb : ∀ n : Nat, (n : Int) ≤ w 77 6 → 0 ≤ qk_s (pm_H (w 77)) (qk_b a1) n ∧ qk_s (pm_H (w 77)) (qk_b a1) n ≤ 50 * n := fun n hn => qk_sb n (fun k hk => by
    have := rm_part0 hI.2.2.2.1 (k := k) (by omega) (by omega)
    unfold pm_H; omega)
  -- a roll
  have l2 : ∀ (P : Prop) (a2 a3 a4 : Int), 0 ≤ a4 → a4 < 4 → (0 ≤ a2 ∧ a2 ≤ 100000) → (0 ≤ a3 ∧ a3 < 16) → (a3.toNat.testBit a4.toNat = true ↔ P) → (∀ v, (0 ≤ v ∧ v ≤ a2 + 50) → v = a2 + cs_tm P (pm_F (w 77) a4) → ck_At (ch_C g A R) d mX12_hoursOf K 76 [some (.inr (.inr 76)), none, some (.inl v), some (.inl a3), some (.inl (a4 + 1))] [] w) → ck_At (ch_C g A R) d mX12_hoursOf K 76 [some (.inr (.inr 76)), none, some (.inl a2), some (.inl a3), some (.inl a4)] [] w := by
    intro P a2 a3 a4 q1 q2 q3 q4 q5 nx
    have fe := rm_fetch hI.2.2.2.1 (r := a4) q1 (by omega)
    have bt := qk_bit (s := a3) (k := a4) q4.1 (by omega) q1 (by omega)
    unfold qk_b at bt
    refine r_X12_hoursOf_76 hC ⟨fun z => absurd z (by omega), fun _ => ⟨fun z => ⟨by constructor <;> omega, by constructor <;> omega, nx _ (by omega) ?_⟩, fun z => ⟨by omega, by constructor <;> omega, by constructor <;> omega, nx _ (by omega) ?_⟩⟩⟩
    · rw [bt] at z
      rw [cs_tm0 (fun p => z (by rw [if_pos (q5.mpr p)]))]
    · rw [bt] at z
      have p : P := by
        by_cases y : a3.toNat.testBit a4.toNat = true
        · exact q5.mp y
        · rw [if_neg y] at z; exact absurd z (by decide)
      rw [cs_tm1 p]; rfl
  have l1 : ∀ (m n : Nat) (a2 a3 a4 : Int), w 77 6 - a4 = m → a4 = n → a2 = qk_s (pm_H (w 77)) (qk_b a1) n → (0 ≤ a3 ∧ a3 < 16) → (∀ r : Nat, r < 4 → (a3.toNat.testBit r = true ↔ qk_u (pm_L (w 77)) (qk_b a1) n r)) → ck_At (ch_C g A R) d mX12_hoursOf K 7 [some (.inr (.inr 76)), some (.inl a1), some (.inl a2), some (.inl a3), some (.inl a4)] [] w := by
    intro m
    induction m with
    | zero =>
      intro n a2 a3 a4 q1 q2 q3 q4 q5
      refine r_X12_hoursOf_7 hC ⟨fun _ => ?_, fun z => absurd (by omega) z⟩
      have en : n = (w 77 6).toNat := by omega
      have b0 := wb n (by omega)
      rw [en] at q3 q5 b0
      refine l2 (qk_u (pm_L (w 77)) (qk_b a1) (w 77 6).toNat 0) _ _ 0 (by omega) (by omega) (by omega) q4 (q5 0 (by decide)) (fun v1 b1 e1 => ?_)
      refine l2 (qk_u (pm_L (w 77)) (qk_b a1) (w 77 6).toNat 1) _ _ 1 (by omega) (by omega) (by omega) q4 (q5 1 (by decide)) (fun v2 b2 e2 => ?_)
      refine l2 (qk_u (pm_L (w 77)) (qk_b a1) (w 77 6).toNat 2) _ _ 2 (by omega) (by omega) (by omega) q4 (q5 2 (by decide)) (fun v3 b3 e3 => ?_)
      refine l2 (qk_u (pm_L (w 77)) (qk_b a1) (w 77 6).toNat 3) _ _ 3 (by omega) (by omega) (by omega) q4 (q5 3 (by decide)) (fun v4 b4 e4 => ?_)
      refine r_X12_hoursOf_76 hC ⟨fun _ => ?_, fun z => absurd (by omega) z⟩
      have ev : v4 = qk_h (pm_H (w 77)) (pm_L (w 77)) (pm_F (w 77)) (w 77 6).toNat (qk_b a1) := by
        unfold qk_h qk_f
        rw [e4, e3, e2, e1, q3]
        omega
      rw [ev]; exact h
    | succ m ih =>
      intro n a2 a3 a4 q1 q2 q3 q4 q5
      have p0 := rm_part0 hI.2.2.2.1 (k := a4) (by omega) (by omega)
      have p2 := rm_part2 hI.2.2.2.1 (k := a4) (by omega) (by omega)
      have b0 := wb n (by omega)
      have bt := qk_bit (s := a1) (k := a4) ha.1 ha.2 (by omega) (by omega)
      have en : a4.toNat = n := by omega
      rw [en] at bt
      have st : qk_s (pm_H (w 77)) (qk_b a1) (n + 1) = qk_s (pm_H (w 77)) (qk_b a1) n + (if qk_b a1 n = true then w 77 (1360 + 3 * a4) else 0) := by rw [qk_s, q2]; rfl
      refine r_X12_hoursOf_7 hC ⟨fun z => absurd z (by omega), fun _ => ⟨fun z => ⟨by omega, fun x ex => ⟨by constructor <;> omega, by omega, fun y ey => ⟨by constructor <;> omega, ?_⟩⟩⟩, fun z => ⟨by constructor <;> omega, ih (n + 1) _ _ _ (by omega) (by omega) ?_ q4 (fun r hr => ?_)⟩⟩⟩
      · rw [bt] at z
        have y1 : qk_b a1 n = true := by
          by_cases y : qk_b a1 n = true
          · exact y
          · rw [if_neg y] at z; exact absurd rfl z
        obtain ⟨c, ec⟩ := kb_nat q4.1
        obtain ⟨e, ee⟩ := kb_nat p2.1
        have pw : 2 ^ e ≤ 2 ^ 3 := Nat.pow_le_pow_right (by decide) (by omega)
        have sh : ck_shl 1 (w 77 (1360 + 3 * a4 + 2)) = ((2 ^ e : Nat) : Int) := by rw [ee, kb_shl1 (by omega) (by omega)]; simp
        have ey2 : y = ((c ||| 2 ^ e : Nat) : Int) := by rw [ey, sh, ec, kb_or (by omega) (by omega)]
        have lt : c ||| 2 ^ e < 2 ^ 4 := Nat.or_lt_two_pow (by omega) (by omega)
        refine ih (n + 1) _ _ _ (by omega) (by omega) (by rw [st, if_pos y1]; omega) (by omega) (fun r hr => ?_)
        have q := q5 r hr
        rw [ec, Int.toNat_natCast] at q
        rw [ey2, Int.toNat_natCast, Nat.testBit_or, Nat.testBit_two_pow, Bool.or_eq_true, q, decide_eq_true_iff]
        refine ⟨fun x => ?_, fun ⟨k, k1, k2, k3⟩ => ?_⟩
        · rcases x with ⟨k, k1, k2, k3⟩ | x
          · exact ⟨k, by omega, k2, k3⟩
          · refine ⟨n, by omega, y1, ?_⟩
            show w 77 (1360 + 3 * (n : Int) + 2) = r
            rw [← q2, ee, x]
        · by_cases kn : k = n
          · right
            rw [kn] at k3
            have : w 77 (1360 + 3 * (n : Int) + 2) = r := k3
            rw [← q2, ee] at this
            omega
          · left; exact ⟨k, by omega, k2, k3⟩
      · rw [bt] at z
        rw [st]
        by_cases y : qk_b a1 n = true
        · rw [if_pos y] at z; exact absurd z (by decide)
        · rw [if_neg y]; omega
      · rw [bt] at z
        have y : ¬ qk_b a1 n = true := fun y => by rw [if_pos y] at z; exact absurd z (by decide)
        rw [q5 r hr]
        refine ⟨fun ⟨k, k1, k2, k3⟩ => ⟨k, by omega, k2, k3⟩, fun ⟨k, k1, k2, k3⟩ => ⟨k, ?_, k2, k3⟩⟩
        have : k ≠ n := fun x => y (by rw [← x]; exact k2)
        omega
  exact e_X12_hoursOf hC (l1 (w 77 6).toNat 0 0 0 0 (by omega) (by omega) rfl (by omega) (fun r _ => ⟨fun x => absurd x (by simp), fun ⟨k, k1, _, _⟩ => absurd k1 (by omega)⟩))
theorem M2_plan {g : ch_G} {A R : Nat} (hC : ck_Cx g A R) {d : Nat} {K : Option ck_V → ck_W → Prop} {w : ck_W} {a1 a2 : Int} (hI : rm_I A R w) (h1 : ∀ s, (0 ≤ a1 ∧ a1 ≤ 400) → (0 ≤ a2 ∧ a2 ≤ 2) → qk_best (fun t => qk_h (pm_H (w 77)) (pm_L (w 77)) (pm_F (w 77)) (w 77 6).toNat (qk_b t)) (fun t => qk_s (pm_W (w 77)) (qk_b t) (w 77 6).toNat) a1 ((2 ^ (w 77 6).toNat : Nat) : Int) s → ∀ v, v = (if a2 = 2 then qk_h (pm_H (w 77)) (pm_L (w 77)) (pm_F (w 77)) (w 77 6).toNat (qk_b s) else if a2 = 1 then qk_s (pm_W (w 77)) (qk_b s) (w 77 6).toNat else s) → K (some (.inl v)) w) (h0 : ¬ ((0 ≤ a1 ∧ a1 ≤ 400) ∧ (0 ≤ a2 ∧ a2 ≤ 2)) → K (some (.inl (-1))) w) : ck_Ex (ch_C g A R) (d + 1) mX12_plan [.inr (.inr 76), .inl a1, .inl a2] w K := by
  have f0 := rm_c0 hI.2.2.2.1
  generalize hN : (w 77 6).toNat = N at *
  have p16 : 2 ^ N ≤ 2 ^ 16 := Nat.pow_le_pow_right (by decide) (by omega)
  have pos : 0 < 2 ^ N := Nat.pow_pos (by decide)
  have sh : ck_shl 1 (w 77 6) = ((2 ^ N : Nat) : Int) := by rw [kb_shl1 (by omega) (by omega), hN]; simp
  have wbd : ∀ b, 0 ≤ qk_s (pm_W (w 77)) b N ∧ qk_s (pm_W (w 77)) b N ≤ 1000 * N := fun b => qk_sb N (fun k hk => by
    have := rm_part1 hI.2.2.2.1 (k := k) (by omega) (by omega)
    unfold pm_W; omega)
  refine e_X12_plan hC ⟨fun q1 => ⟨fun q2 => ?_, fun q => h0 (fun x => q x.2)⟩, fun q => h0 (fun x => q x.1)⟩
  have hof : ∀ {K' : Option ck_V → ck_W → Prop} (s : Int), 0 ≤ s → s < ((2 ^ N : Nat) : Int) → K' (some (.inl (qk_h (pm_H (w 77)) (pm_L (w 77)) (pm_F (w 77)) N (qk_b s)))) w → ck_Ex (ch_C g A R) d mX12_hoursOf [.inr (.inr 76), .inl s] w K' := fun s s0 s1 k => S2_X12_hoursOf hC hI ⟨s0, by omega⟩ (by rw [hN]; exact k)
  have wof : ∀ {K' : Option ck_V → ck_W → Prop} (s : Int), 0 ≤ s → s < ((2 ^ N : Nat) : Int) → K' (some (.inl (qk_s (pm_W (w 77)) (qk_b s) N))) w → ck_Ex (ch_C g A R) d mX12_worthOf [.inr (.inr 76), .inl s] w K' := fun s s0 s1 k => S2_X12_worthOf hC hI ⟨s0, by omega⟩ (by rw [hN]; exact k)
  generalize hh : (fun t => qk_h (pm_H (w 77)) (pm_L (w 77)) (pm_F (w 77)) N (qk_b t)) = hr at *
  generalize hg : (fun t => qk_s (pm_W (w 77)) (qk_b t) N) = wo at *
  have hrE : ∀ t, qk_h (pm_H (w 77)) (pm_L (w 77)) (pm_F (w 77)) N (qk_b t) = hr t := fun t => by rw [← hh]
  have woE : ∀ t, qk_s (pm_W (w 77)) (qk_b t) N = wo t := fun t => by rw [← hg]
  simp only [hrE] at hof
  simp only [woE] at wof
  have wb : ∀ t, 0 ≤ wo t ∧ wo t ≤ 1000 * N := fun t => by rw [← woE]; exact wbd _
  have l : ∀ (m : Nat) (a3 a4 : Int), ((2 ^ N : Nat) : Int) - a4 = m → 1 ≤ a4 → (0 ≤ a3 ∧ a3 < a4) → qk_best hr wo a1 a4 a3 → ck_At (ch_C g A R) (d + 1) mX12_plan K 27 [some (.inr (.inr 76)), some (.inl a1), some (.inl a2), some (.inl a3), some (.inl a4), none, none] [] w := by
    intro m
    induction m with
    | zero =>
      intro a3 a4 q3 q4 q5 q6
      rw [show a4 = ((2 ^ N : Nat) : Int) by omega] at q6
      have H := h1 a3 q1 q2 q6
      rw [hrE, woE] at H
      refine r_X12_plan_27 hC ⟨fun _ => ⟨fun z => ⟨fun z1 => hof a3 q5.1 (by omega) ⟨_, rfl, fun _ => H _ ?_⟩, fun z1 => wof a3 q5.1 (by omega) ⟨_, rfl, fun _ => H _ ?_⟩⟩, fun z => H _ ?_⟩, fun z => absurd (by rw [sh]; omega) z⟩
      · rw [if_pos (by omega)]
      · rw [if_neg (by omega), if_pos z1]
      · rw [if_neg (by omega), if_neg (by omega)]
    | succ m ih =>
      intro a3 a4 q3 q4 q5 q6
      have o : (hr a4 ≤ a1 → wo a4 < wo a3 ∨ (wo a4 = wo a3 ∧ hr a3 ≤ hr a4)) → ck_At (ch_C g A R) (d + 1) mX12_plan K 27 [some (.inr (.inr 76)), some (.inl a1), some (.inl a2), some (.inl a3), some (.inl (a4 + 1)), none, none] [] w := fun x => by
        refine ih a3 (a4 + 1) (by omega) (by omega) (by omega) ⟨by omega, q6.2.1, fun t t0 t1 tM => ?_⟩
        by_cases e : t = a4
        · rw [e] at tM ⊢
          have := x tM; omega
        · exact q6.2.2 t t0 (by omega) tM
      have n : hr a4 ≤ a1 → wo a3 < wo a4 ∨ (wo a4 = wo a3 ∧ hr a4 < hr a3) → ck_At (ch_C g A R) (d + 1) mX12_plan K 27 [some (.inr (.inr 76)), some (.inl a1), some (.inl a2), some (.inl a4), some (.inl (a4 + 1)), none, none] [] w := fun y x => by
        refine ih a4 (a4 + 1) (by omega) (by omega) (by omega) ⟨by omega, y, fun t t0 t1 tM => ?_⟩
        by_cases e : t = a4
        · rw [e]; omega
        · have := q6.2.2 t t0 (by omega) tM; omega
      have b3 := wb a3
      have b4 := wb a4
      refine r_X12_plan_27 hC ⟨fun z => absurd z (by rw [sh]; omega), fun _ => ?_⟩
      refine hof a4 (by omega) (by omega) ⟨_, rfl, fun _ => ⟨fun y => wof a4 (by omega) (by omega) ⟨_, rfl, fun _ => wof a3 (by omega) (by omega) ⟨_, rfl, fun _ => ⟨by constructor <;> omega, fun x => ⟨by constructor <;> omega, n y (by omega)⟩, fun x => ⟨fun x2 => ⟨by constructor <;> omega, o (fun _ => by omega)⟩, fun x2 => hof a3 (by omega) (by omega) ⟨_, rfl, fun _ => ⟨fun x3 => ⟨by constructor <;> omega, o (fun _ => by omega)⟩, fun x3 => ⟨by constructor <;> omega, n y (by omega)⟩⟩⟩⟩⟩⟩⟩, fun y => ⟨by constructor <;> omega, o (fun z => absurd z y)⟩⟩⟩
  refine l ((2 ^ N : Nat) - 1) 0 1 (by omega) (by omega) (by omega) ⟨by omega, ?_, fun t t0 t1 tM => ?_⟩
  · have z : qk_b 0 = fun _ => false := funext fun k => by unfold qk_b; simp
    have : qk_f (pm_F (w 77)) (qk_u (pm_L (w 77)) (fun _ => false) N) = 0 := qk_f0 (fun i ⟨k, _, z, _⟩ => Bool.false_ne_true z)
    rw [← hrE, z]
    unfold qk_h
    rw [qk_s0, this]; omega
  · rw [show t = 0 by omega]; omega
