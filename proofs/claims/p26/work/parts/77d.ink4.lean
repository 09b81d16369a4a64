/-! ===== the reference's ink, as it is called ===== -/
theorem M2_ink {g : ch_G} {A R : Nat} (hC : ck_Cx g A R) {d : Nat} {K : Option ck_V → ck_W → Prop} {w : ck_W} {a1 a2 a3 e : Int} {cd j0 : Int → Int} {cp : Int → Int → Int} (hI : rm_I A R w) (hc : rm_cps w cp) (hX : (0 ≤ a1 ∧ a1 < w 77 0) → cX (800 * a1) (w 79 (800 * a1)) e cd (w 79))
    (h1 : (0 ≤ a1 ∧ a1 < w 77 0) → (0 ≤ a2 ∧ a2 ≤ 5) → (0 ≤ a3 ∧ a3 < w 77 (10 + a2) * (A : Int)) → ∀ w2 w', rm_w2 A R w a2 (w 77 (10 + a2) * A) (cp a2) w2 → 0 ≤ w2 83 a2 → rm_q w w' → K (some (.inl (cv_an (cv_rn (rs_v A R (w 77) (w2 85) a2 a3) cd (w 79 (800 * a1) + e).toNat 0 ((0, 0), (0, j0)))))) w')
    (h0 : ∀ w', rm_q w w' → ((0 ≤ a1 ∧ a1 < w 77 0) → (0 ≤ a2 ∧ a2 ≤ 5) → ∃ w2, rm_w2 A R w a2 (w 77 (10 + a2) * A) (cp a2) w2 ∧ ¬ ((0 ≤ a3 ∧ a3 < w 77 (10 + a2) * (A : Int)) ∧ 0 ≤ w2 83 a2)) → K (some (.inl (-1))) w') : ck_Ex (ch_C g A R) (d + 6) mX12_ink [.inr (.inr 76), .inl a1, .inl a2, .inl a3] w K := by
  have f0 := rm_c0 hI.2.2.2.1
  refine e_X12_ink hC ⟨by omega, fun q1 => ⟨fun q2 => ?_, fun q2 => h0 _ rm_q_rf (fun _ x => absurd x q2)⟩, fun q1 => h0 _ rm_q_rf (fun x _ => absurd ⟨x.1, by omega⟩ q1)⟩
  refine S2_X12_wind hC hI q2 (hc.1 a2) (fun p p0 p1 => hc.2 a2 p q2 p0 p1) (fun w1 i1 i2 i3 i4 i5 => ⟨rfl, ?_⟩)
  have q := rm_q_wf i1
  have I1 := rm_I_q hI q
  have eA := (rm_cp hC hI).1
  have ew : w1 77 (10 + a2) * w1 76 0 = w 77 (10 + a2) * (A : Int) := by rw [q.1, q.2.1, eA]
  refine S_X12_isThere hC I1 q2 (fun th => ⟨_, rfl, fun _ => ⟨fun z => absurd z (by decide), fun _ => ?_⟩⟩) (fun th => ⟨_, rfl, fun _ => ⟨fun _ => h0 _ q (fun _ _ => ⟨w1, i5, fun x => th ⟨⟨x.1.1, by rw [ew]; omega⟩, by omega⟩⟩), fun z => absurd rfl z⟩⟩)
  have th1 := th.1
  have th2 := th.2
  rw [ew] at th1
  have sp : rm_sp R a2 w1 := fun p p0 p1 => i4.2.2 (by omega) p p0 (by rw [ew] at p1; exact p1)
  have rok : 0 ≤ a1 ∧ a1 < w 77 0 := ⟨q1.1, by omega⟩
  refine S2_X12_isInk (e := e) (cd := cd) (j0 := j0) hC I1 (by rw [q.2.1]; exact rok) q2 ⟨th1.1, by rw [ew]; omega⟩ sp (by rw [q.2.2.2.1]; exact hX rok) (fun w2 b2 => ⟨_, rfl, fun _ => ?_⟩)
  have q3 : rm_q w w2 := rm_q_tr q ⟨b2 76 (by decide) (by decide) (by decide), b2 77 (by decide) (by decide) (by decide), b2 78 (by decide) (by decide) (by decide), b2 79 (by decide) (by decide) (by decide), fun k hk => b2 k (by omega) (by omega) (by omega)⟩
  have k := h1 rok q2 ⟨th1.1, by omega⟩ w1 w2 i5 (by omega) q3
  rw [q.2.1, q.2.2.2.1]
  generalize cv_rn (rs_v A R (w 77) (w1 85) a2 a3) cd (w 79 (800 * a1) + e).toNat 0 ((0, 0), (0, j0)) = t at k
  have a01 : cv_an t = 0 ∨ cv_an t = 1 := by
    unfold cv_an
    repeat' split
    all_goals omega
  rcases a01 with z | z
  · rw [z] at k ⊢
    exact ⟨fun _ => k, fun x => absurd rfl x⟩
  · rw [z] at k ⊢
    exact ⟨fun x => absurd x (by decide), fun _ => k⟩
/-- the same values, the same code: the same answer -/
theorem cv_st_v {val val' : Int → Int} (h : ∀ n, 0 ≤ n → val n = val' n) {x : Int} (t : (Int × Int) × cv_S) : cv_st val x t = cv_st val' x t := by
  unfold cv_st
  by_cases q : x < 10000
  · rw [if_pos q, if_pos q]
  · rw [if_neg q, if_neg q]
    by_cases q2 : x < 20000
    · rw [if_pos q2, if_pos q2, h _ (by omega)]
    · rw [if_neg q2, if_neg q2]
theorem cv_rn_v {val val' cd : Int → Int} (h : ∀ n, 0 ≤ n → val n = val' n) : ∀ (n : Nat) (i : Int) (t : (Int × Int) × cv_S), cv_rn val cd n i t = cv_rn val' cd n i t
  | 0, _, _ => rfl
  | n + 1, i, t => by rw [cv_rn, cv_rn, cv_st_v h, cv_rn_v h n]
theorem cv_rn_o {val cd : Int → Int} {o : Int} : ∀ (n : Nat) (i : Int) (t : (Int × Int) × cv_S), cv_rn val cd n (o + i) t = cv_rn val (fun k => cd (o + k)) n i t
  | 0, _, _ => rfl
  | n + 1, i, t => by
    rw [cv_rn, cv_rn, show o + i + 1 = o + (i + 1) by omega, cv_rn_o n]
theorem cv_rn_z {val cd : Int → Int} {o : Int} (n : Nat) (t : (Int × Int) × cv_S) : cv_rn val cd n o t = cv_rn val (fun k => cd (o + k)) n 0 t := by
  have e := cv_rn_o (val := val) (cd := cd) (o := o) n 0 t
  rw [Int.add_zero] at e
  exact e
