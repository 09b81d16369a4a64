/-! ===== the reference: boxes, exact ===== -/
theorem kb_orz {x : Int} (h : 0 ≤ x ∧ x < 512) : ck_or x 0 = x := by
  obtain ⟨n, rfl⟩ := kb_nat h.1
  rw [show (0 : Int) = ((0 : Nat) : Int) by rfl, kb_or (by omega) (by omega), Nat.or_zero]
theorem kb_shz {k : Int} (h : 0 ≤ k ∧ k < 9) : ck_shl 0 k = 0 := by
  obtain ⟨n, rfl⟩ := kb_nat h.1
  rw [show (0 : Int) = ((0 : Nat) : Int) by rfl, kb_shl (by omega) (by omega)]
  omega
theorem kb_xorc (x y : Int) : ck_xor x y = ck_xor y x := by
  unfold ck_xor
  rw [Int32.xor_comm]
/-- two piles that say the same -/
def cv_si (s s' : cv_S) : Prop := s.1 = s'.1 ∧ ∀ j, 0 ≤ j → j < s.1 → s.2 j = s'.2 j
theorem cv_si_ps {s s' : cv_S} {v : Int} (h : cv_si s s') : cv_si (cv_ps s v) (cv_ps s' v) := by
  obtain ⟨h1, h2⟩ := h
  unfold cv_ps
  rw [← h1]
  by_cases q : 0 ≤ s.1 ∧ s.1 ≤ 63
  · rw [if_pos q, if_pos q]
    refine ⟨rfl, fun j j0 j1 => ?_⟩
    have j1' : j < s.1 + 1 := j1
    show rm_u s.2 s.1 v j = rm_u s'.2 s.1 v j
    by_cases x : j = s.1
    · rw [x, rm_u_eq, rm_u_eq]
    · rw [rm_u_ne x, rm_u_ne x]; exact h2 j j0 (by omega)
  · rw [if_neg q, if_neg q]; exact ⟨h1, h2⟩
theorem cv_si_pp {s s' : cv_S} (h : cv_si s s') : (cv_pp s).1 = (cv_pp s').1 ∧ cv_si (cv_pp s).2 (cv_pp s').2 := by
  obtain ⟨h1, h2⟩ := h
  unfold cv_pp
  rw [← h1]
  by_cases q : 1 ≤ s.1 ∧ s.1 ≤ 64
  · rw [if_pos q, if_pos q]
    refine ⟨h2 _ (by omega) (by omega), rfl, fun j j0 j1 => ?_⟩
    have j1' : j < s.1 - 1 := j1
    exact h2 j j0 (by omega)
  · rw [if_neg q, if_neg q]; exact ⟨rfl, h1, h2⟩
theorem cv_si_wk {s s' : cv_S} {o : Int} (h : cv_si s s') : cv_si (cv_wk o s) (cv_wk o s') := by
  have a := cv_si_pp h
  have b := cv_si_pp a.2
  unfold cv_wk
  rw [a.1, b.1]
  by_cases q : o = 8
  · rw [if_pos q, if_pos q]; exact cv_si_ps a.2
  · rw [if_neg q, if_neg q]
    by_cases q2 : o = 22
    · rw [if_pos q2, if_pos q2]; exact cv_si_ps a.2
    · rw [if_neg q2, if_neg q2]; exact cv_si_ps b.2
theorem cv_si_st {val : Int → Int} {x : Int} {t t' : (Int × Int) × cv_S} (e : t.1 = t'.1) (h : cv_si t.2 t'.2) : (cv_st val x t).1 = (cv_st val x t').1 ∧ cv_si (cv_st val x t).2 (cv_st val x t').2 := by
  have a := cv_si_pp h
  unfold cv_st
  by_cases q : x < 10000
  · rw [if_pos q, if_pos q]; exact ⟨e, cv_si_ps h⟩
  rw [if_neg q, if_neg q]
  by_cases q2 : x < 20000
  · rw [if_pos q2, if_pos q2]; exact ⟨e, cv_si_ps h⟩
  rw [if_neg q2, if_neg q2]
  by_cases q3 : x = 20004
  · rw [if_pos q3, if_pos q3, a.1, e]; exact ⟨rfl, a.2⟩
  rw [if_neg q3, if_neg q3]
  by_cases q4 : x = 20005
  · rw [if_pos q4, if_pos q4, a.1, e]; exact ⟨rfl, a.2⟩
  rw [if_neg q4, if_neg q4]; exact ⟨e, cv_si_wk h⟩
theorem cv_si_rn {val cd : Int → Int} : ∀ (n : Nat) (i : Int) (t t' : (Int × Int) × cv_S), t.1 = t'.1 → cv_si t.2 t'.2 → (cv_rn val cd n i t).1 = (cv_rn val cd n i t').1
  | 0, _, _, _, e, _ => e
  | n + 1, i, t, t', e, h => by
    rw [cv_rn, cv_rn]
    have s := cv_si_st (val := val) (x := cd i) e h
    exact cv_si_rn n (i + 1) _ _ s.1 s.2
/-- what lies on the pile from before does not matter, ever -/
theorem cv_junk {val cd : Int → Int} (n : Nat) (i : Int) (j j' : Int → Int) : (cv_rn val cd n i ((0, 0), (0, j))).1 = (cv_rn val cd n i ((0, 0), (0, j'))).1 := by
  refine cv_si_rn n i _ _ rfl ⟨rfl, fun k k0 k1 => ?_⟩
  have k2 : k < 0 := k1
  omega
theorem cv_J_all (A R : Nat) (w : ck_W) : cv_J A R w := fun r _ _ z p j => by
  unfold cv_ij
  rw [cv_junk (w 12 r).toNat (r * 300) j (fun _ => 0)]
theorem cv_an01 (t : (Int × Int) × cv_S) : cv_an t = 0 ∨ cv_an t = 1 := by
  unfold cv_an
  repeat' split
  all_goals omega
/-- ink at a place, by a code: f the reference's row, b the radii -/
def rs_ik (A R : Nat) (f b cd : Int → Int) (n : Nat) (z p : Int) : Int := cv_an (cv_rn (rs_v A R f b z p) cd n 0 ((0, 0), (0, fun _ => 0)))
theorem S2_X12_isBox {g : ch_G} {A R : Nat} (hC : ck_Cx g A R) {d : Nat} {K : Option ck_V → ck_W → Prop} {w : ck_W} {a1 a2 : Int} (hI : rm_I A R w) (ha : ck_i a2) (k1 : rm_bx w a1 a2 → K (some (.inl 1)) w) (k0 : ¬ rm_bx w a1 a2 → K (some (.inl 0)) w) : ck_Ex (ch_C g A R) (d + 2) mX12_isBox [.inr (.inr 76), .inl a1, .inl a2] w K := by
  refine e_X12_isBox hC ⟨fun q1 => ⟨fun q2 => ?_, fun q2 => k0 (fun x => q2 x.2.1)⟩, fun q1 => k0 (fun x => q1 x.1)⟩
  have l : ∀ (m : Nat) (a3 : Int), a1 + 3 - a3 = m → a1 ≤ a3 → (∀ y, a1 ≤ y → y < a3 → rm_th w y (a2 + 2)) → ck_At (ch_C g A R) (d + 2) mX12_isBox K 17 [some (.inr (.inr 76)), some (.inl a1), some (.inl a2), some (.inl a3)] [] w := by
    intro m
    induction m with
    | zero =>
      intro a3 q3 q4 q5
      exact r_X12_isBox_17 hC ⟨by constructor <;> omega, fun _ => k1 ⟨q1, q2, fun y y0 y1 => q5 y y0 (by omega)⟩, fun z => absurd (by omega) z⟩
    | succ m ih =>
      intro a3 q3 q4 q5
      refine r_X12_isBox_17 hC ⟨by constructor <;> omega, fun z => absurd z (by omega), fun _ => ?_⟩
      refine S_X12_isThere hC hI (by omega) (fun th => ⟨_, rfl, fun _ => ⟨fun _ => ⟨by constructor <;> omega, ih _ (by omega) (by omega) (fun y y0 y1 => ?_)⟩, fun z => absurd z (by decide)⟩⟩) (fun th => ⟨_, rfl, fun _ => ⟨fun z => absurd rfl z, fun _ => k0 (fun x => th ?_)⟩⟩)
      · by_cases e : y = a3
        · subst e
          have c := ck_wr_add (a := a2) (b := 2) ha (by omega)
          have t := th.1
          have pb := rm_pb hC hI (z := y) (by omega) (by omega)
          rcases c with c | c | c
          · rw [c] at th; exact th
          · omega
          · omega
        · exact q5 y y0 (by omega)
      · have t := x.2.2 a3 q4 (by omega)
        have t1 := t.1
        have pb := rm_pb hC hI (z := a3) (by omega) (by omega)
        rw [ck_wr_of (by constructor <;> omega)]
        exact t
  exact l 3 a1 (by omega) (by omega) (fun y y0 y1 => by omega)
theorem S2_X12_bitsAt {g : ch_G} {A R : Nat} (hC : ck_Cx g A R) {d : Nat} {K : Option ck_V → ck_W → Prop} {w : ck_W} {a1 a2 a3 e : Int} {cd : Int → Int} (hs : rm_st A R w w) (h0 : 0 ≤ a1 ∧ a1 < w 77 0) (hb : rm_bx w a2 a3) (hX : cX (800 * a1) (w 79 (800 * a1)) e cd (w 79))
    (h : ∀ w', (∀ k, k ≠ 91 → k ≠ 92 → k ≠ 93 → w' k = w k) → (0 ≤ cb_or (fun i j => rs_ik A R (w 77) (w 85) cd (w 79 (800 * a1) + e).toNat (a2 + i) (a3 + j)) 9 ∧ cb_or (fun i j => rs_ik A R (w 77) (w 85) cd (w 79 (800 * a1) + e).toNat (a2 + i) (a3 + j)) 9 < 512) → K (some (.inl (cb_or (fun i j => rs_ik A R (w 77) (w 85) cd (w 79 (800 * a1) + e).toNat (a2 + i) (a3 + j)) 9))) w') : ck_Ex (ch_C g A R) (d + 5) mX12_bitsAt [.inr (.inr 76), .inl a1, .inl a2, .inl a3] w K := by
  generalize hF : (fun i j => rs_ik A R (w 77) (w 85) cd (w 79 (800 * a1) + e).toNat (a2 + i) (a3 + j)) = F at h
  have l : ∀ (m k : Nat) (u : ck_W), 9 - k = m → k ≤ 9 → (0 ≤ cb_or F k ∧ cb_or F k < 512) → (∀ j, j ≠ 91 → j ≠ 92 → j ≠ 93 → u j = w j) → ck_At (ch_C g A R) (d + 5) mX12_bitsAt K 6 [some (.inr (.inr 76)), some (.inl a1), some (.inl a2), some (.inl a3), some (.inl (cb_or F k)), some (.inl (k : Int))] [] u := by
    intro m
    induction m with
    | zero =>
      intro k u q1 q2 q3 q4
      obtain rfl : k = 9 := by omega
      exact r_X12_bitsAt_6 hC ⟨fun _ => h u q4 q3, fun z => absurd (by decide) z⟩
    | succ m ih =>
      intro k u q1 q2 q3 q4
      have su := rm_st_ink hs q4
      have t1 : (k : Int).tmod 3 = ((k % 3 : Nat) : Int) := by rw [Int.tmod_eq_emod_of_nonneg (by omega)]; omega
      have t2 : (k : Int).tdiv 3 = ((k / 3 : Nat) : Int) := by rw [Int.tdiv_eq_ediv_of_nonneg (by omega)]; omega
      have e77 := q4 77 (by decide) (by decide) (by decide)
      have e76 := q4 76 (by decide) (by decide) (by decide)
      have e79 := q4 79 (by decide) (by decide) (by decide)
      have e85 := q4 85 (by decide) (by decide) (by decide)
      have th := hb.2.2 (a2 + ((k / 3 : Nat) : Int)) (by omega) (by omega)
      have z0 := hb.1
      have p0 := hb.2.1
      have th1 := th.1
      have th2 := th.2
      have pb := rm_pb hC hs.2.1 (z := a2 + ((k / 3 : Nat) : Int)) (by omega) (by omega)
      refine r_X12_bitsAt_6 hC ⟨fun z => absurd z (by omega), fun _ => ?_⟩
      rw [t1, t2]
      refine ⟨by constructor <;> omega, by constructor <;> omega, ?_⟩
      refine S2_X12_isInk (e := e) (cd := cd) (j0 := fun _ => 0) hC su.2.1 (by rw [e77]; exact h0) (by omega) (by rw [e77, e76]; omega) (su.2.2 _ (by omega) (by omega) (by rw [q4 83 (by decide) (by decide) (by decide)]; omega)) (by rw [e79]; exact hX) (fun w' b2 => ⟨_, rfl, fun _ => ?_⟩)
      rw [e77, e79, e85]
      have kk : ∀ j, j ≠ 91 → j ≠ 92 → j ≠ 93 → w' j = w j := fun j x y z => by rw [b2 j x y z, q4 j x y z]
      have eF : cv_an (cv_rn (rs_v A R (w 77) (w 85) (a2 + ((k / 3 : Nat) : Int)) (a3 + ((k % 3 : Nat) : Int))) cd (w 79 (800 * a1) + e).toNat 0 ((0, 0), (0, fun _ => 0))) = F ((k / 3 : Nat) : Int) ((k % 3 : Nat) : Int) := by rw [← hF]; rfl
      have f01 : F ((k / 3 : Nat) : Int) ((k % 3 : Nat) : Int) = 0 ∨ F ((k / 3 : Nat) : Int) ((k % 3 : Nat) : Int) = 1 := by rw [← eF]; exact cv_an01 _
      rw [eF]
      have cbs : cb_or F (k + 1) = ck_or (cb_or F k) (ck_shl (F ((k / 3 : Nat) : Int) ((k % 3 : Nat) : Int)) (k : Int)) := rfl
      have bd : 0 ≤ cb_or F (k + 1) ∧ cb_or F (k + 1) < 512 := by rw [cbs]; exact kb_or9 q3 (cb_shl f01 (by omega))
      have nx : ∀ x, x = cb_or F (k + 1) → ck_At (ch_C g A R) (d + 5) mX12_bitsAt K 6 [some (.inr (.inr 76)), some (.inl a1), some (.inl a2), some (.inl a3), some (.inl x), some (.inl ((k : Int) + 1))] [] w' := by
        intro x ex
        rw [ex, show (k : Int) + 1 = ((k + 1 : Nat) : Int) by omega]
        exact ih (k + 1) w' (by omega) (by omega) bd kk
      refine ⟨fun z => ⟨by constructor <;> omega, nx _ ?_⟩, fun z => ⟨by constructor <;> omega, nx _ ?_⟩⟩
      · rw [cbs, z, kb_shz (by omega), kb_orz q3]
      · rw [cbs, f01.resolve_left z]
  exact e_X12_bitsAt hC (l 9 0 w (by omega) (by omega) (by simp [cb_or]) (fun _ _ _ _ => rfl))
/-- the chance of a letter without its weight -/
def rs_ft (f : Int → Int) (s l : Int) : Int := ck_pw (f 8) (9 - ck_on 9 (ck_xor s (f (1270 + 2 * l)))) * ck_pw (f 9) (9 - (9 - ck_on 9 (ck_xor s (f (1270 + 2 * l)))))
theorem S2_X12_fitting {g : ch_G} {A R : Nat} (hC : ck_Cx g A R) {d : Nat} {K : Option ck_V → ck_W → Prop} {w : ck_W} {a1 a2 : Int} (hI : rm_I A R w) (h1 : 0 ≤ a1 ∧ a1 < 512) (h2 : 0 ≤ a2 ∧ a2 < 12) (h : (1 ≤ rs_ft (w 77) a1 a2 ∧ rs_ft (w 77) a1 a2 ≤ 19683) → K (some (.inr (.inl (rs_ft (w 77) a1 a2)))) w) : ck_Ex (ch_C g A R) (d + 1) mX12_fitting [.inr (.inr 76), .inl a1, .inl a2] w K := by
  have f0 := rm_c0 hI.2.2.2.1
  have l0 := rm_let0 hI.2.2.2.1 h2.1 h2.2
  have xb := kb_xor9 (x := a1) (y := w 77 (1270 + 2 * a2)) h1 (by omega)
  have ob := ck_onb xb 9 (by decide)
  have b1 := ck_pw_b (b := w 77 8) (e := 9 - ck_on 9 (ck_xor a1 (w 77 (1270 + 2 * a2)))) (by omega) (by omega)
  have b2 := ck_pw_b (b := w 77 9) (e := 9 - (9 - ck_on 9 (ck_xor a1 (w 77 (1270 + 2 * a2))))) (by omega) (by omega)
  have fb := ck_fitb (h := w 77 8) (m := w 77 9) (a := 9 - ck_on 9 (ck_xor a1 (w 77 (1270 + 2 * a2)))) (n := 9) (top := 3) (by omega) (by omega) (by omega)
  have f1 := ck_fit1 (h := w 77 8) (m := w 77 9) (a := 9 - ck_on 9 (ck_xor a1 (w 77 (1270 + 2 * a2)))) (n := 9) (by omega) (by omega)
  rw [ck_p39] at fb
  refine e_X12_fitting hC ⟨by omega, by omega, fun x ex => ?_⟩
  subst ex
  exact ⟨by constructor <;> omega, by omega, by omega, by omega, by constructor <;> omega, by omega, by omega, by omega, by constructor <;> omega, h ⟨f1, fb⟩⟩
/-- the best letter and its chance, from letter k on -/
def rs_bl (f : Int → Int) (s : Int) : Nat → Int → Int × Int → Int × Int
  | 0, _, x => x
  | n + 1, k, x => rs_bl f s n (k + 1) (if f (1270 + 2 * k + 1) * rs_ft f s k ≤ x.2 then x else (k, f (1270 + 2 * k + 1) * rs_ft f s k))
theorem S2_X12_letterOf {g : ch_G} {A R : Nat} (hC : ck_Cx g A R) {d : Nat} {K : Option ck_V → ck_W → Prop} {w : ck_W} {a1 : Int} (hI : rm_I A R w) (h1 : 0 ≤ a1 ∧ a1 < 512) (h : (-1 ≤ (rs_bl (w 77) a1 (w 77 4).toNat 0 (-1, 0)).1 ∧ (rs_bl (w 77) a1 (w 77 4).toNat 0 (-1, 0)).1 < w 77 4) → (1 ≤ w 77 4 → 0 ≤ (rs_bl (w 77) a1 (w 77 4).toNat 0 (-1, 0)).1) → K (some (.inl (rs_bl (w 77) a1 (w 77 4).toNat 0 (-1, 0)).1)) w) : ck_Ex (ch_C g A R) (d + 2) mX12_letterOf [.inr (.inr 76), .inl a1] w K := by
  have f0 := rm_c0 hI.2.2.2.1
  have l : ∀ (m : Nat) (a2 a3 a5 : Int), w 77 4 - a5 = m → 0 ≤ a5 → (-1 ≤ a2 ∧ a2 < w 77 4) → (1 ≤ a5 → 0 ≤ a2) → (a2 < 0 → a3 = 0) → rs_bl (w 77) a1 m a5 (a2, a3) = rs_bl (w 77) a1 (w 77 4).toNat 0 (-1, 0) → ck_At (ch_C g A R) (d + 2) mX12_letterOf K 7 [some (.inr (.inr 76)), some (.inl a1), some (.inl a2), some (.inr (.inl a3)), none, some (.inl a5), none, none] [] w := by
    intro m
    induction m with
    | zero =>
      intro a2 a3 a5 q1 q2 q3 q4 q5 q6
      rw [rs_bl] at q6
      rw [← q6] at h
      exact r_X12_letterOf_7 hC ⟨fun _ => h q3 (fun _ => q4 (by omega)), fun z => absurd (by omega) z⟩
    | succ m ih =>
      intro a2 a3 a5 q1 q2 q3 q4 q5 q6
      have l1 := rm_let1 hI.2.2.2.1 (k := a5) q2 (by omega)
      have l2 := hI.2.2.2.1.2.1 a5 q2 (by omega)
      rw [show (1271 + 2 * a5 : Int) = 1270 + 2 * a5 + 1 by omega] at l2
      rw [rs_bl] at q6
      refine r_X12_letterOf_7 hC ⟨fun z => absurd z (by omega), fun _ => ⟨by omega, S2_X12_fitting hC hI h1 (by omega) (fun b => ⟨_, rfl, fun _ => fun x ex => ?_⟩)⟩⟩
      have mb := ck_mlb (x := w 77 (1270 + 2 * a5 + 1)) (y := rs_ft (w 77) a1 a5) (a := 99) (b := 19683) l1 (by omega)
      have mp := ck_mlp (x := w 77 (1270 + 2 * a5 + 1)) (y := rs_ft (w 77) a1 a5) l2 b.1
      rw [← ex] at q6 mb mp
      dsimp only at q6
      refine ⟨by constructor <;> omega, fun y => ⟨by constructor <;> omega, ih _ _ _ (by omega) (by omega) (by omega) (fun _ => q2) (fun y2 => by omega) ?_⟩, fun y => ⟨fun y2 => ⟨by constructor <;> omega, ih _ _ _ (by omega) (by omega) (by omega) (fun _ => q2) (fun y3 => by omega) ?_⟩, fun y2 => ⟨by constructor <;> omega, ih _ _ _ (by omega) (by omega) q3 (fun _ => by omega) q5 ?_⟩⟩⟩
      · have := q5 y
        rw [if_neg (by omega)] at q6; exact q6
      · rw [if_neg (by omega)] at q6; exact q6
      · rw [if_pos (by omega)] at q6; exact q6
  exact e_X12_letterOf hC (l (w 77 4).toNat (-1) 0 0 (by omega) (by omega) (by omega) (fun _ => by omega) (fun _ => rfl) rfl)
def rs_la (f : Int → Int) (s : Int) : Nat → Int → Int → Int
  | 0, _, x => x
  | n + 1, k, x => rs_la f s n (k + 1) (x + f (1270 + 2 * k + 1) * rs_ft f s k)
def rs_od (f : Int → Int) (s : Int) : Int := (1000 * f (1270 + 2 * (rs_bl f s (f 4).toNat 0 (-1, 0)).1 + 1) * rs_ft f s (rs_bl f s (f 4).toNat 0 (-1, 0)).1).tdiv (rs_la f s (f 4).toNat 0 0)
theorem S2_X12_letterOdds {g : ch_G} {A R : Nat} (hC : ck_Cx g A R) {d : Nat} {K : Option ck_V → ck_W → Prop} {w : ck_W} {a1 : Int} (hI : rm_I A R w) (h1 : 0 ≤ a1 ∧ a1 < 512) (hl : 1 ≤ w 77 4) (h : K (some (.inl (rs_od (w 77) a1))) w) : ck_Ex (ch_C g A R) (d + 3) mX12_letterOdds [.inr (.inr 76), .inl a1] w K := by
  have f0 := rm_c0 hI.2.2.2.1
  unfold rs_od at h
  have l : ∀ (m : Nat) (a2 a4 : Int), w 77 4 - a4 = m → 0 ≤ a4 → (a4 ≤ a2 ∧ a2 ≤ 2000000 * a4) → rs_la (w 77) a1 m a4 a2 = rs_la (w 77) a1 (w 77 4).toNat 0 0 → ck_At (ch_C g A R) (d + 3) mX12_letterOdds K 5 [some (.inr (.inr 76)), some (.inl a1), some (.inr (.inl a2)), none, some (.inl a4)] [] w := by
    intro m
    induction m with
    | zero =>
      intro a2 a4 q1 q2 q3 q4
      rw [rs_la] at q4
      rw [← q4] at h
      refine r_X12_letterOdds_5 hC ⟨fun _ => S2_X12_letterOf hC hI h1 (fun b1 b2 => ⟨_, rfl, fun _ => ?_⟩), fun z => absurd (by omega) z⟩
      have b2' := b2 hl
      generalize (rs_bl (w 77) a1 (w 77 4).toNat 0 (-1, 0)).1 = v at *
      have l1 := rm_let1 hI.2.2.2.1 (k := v) b2' (by omega)
      refine ⟨by omega, S2_X12_fitting hC hI h1 (by omega) (fun b => ⟨_, rfl, fun _ => ?_⟩)⟩
      generalize rs_ft (w 77) a1 v = v2 at *
      have mb := ck_mlb (x := 1000 * w 77 (1270 + 2 * v + 1)) (y := v2) (a := 99000) (b := 19683) (by omega) (by omega)
      have tb := ck_tdb (x := 1000 * w 77 (1270 + 2 * v + 1) * v2) (y := a2) (b := 1948617000) (by omega)
      exact ⟨by constructor <;> omega, by omega, by constructor <;> omega, h⟩
    | succ m ih =>
      intro a2 a4 q1 q2 q3 q4
      have l1 := rm_let1 hI.2.2.2.1 (k := a4) q2 (by omega)
      have l2 := hI.2.2.2.1.2.1 a4 q2 (by omega)
      rw [show (1271 + 2 * a4 : Int) = 1270 + 2 * a4 + 1 by omega] at l2
      rw [rs_la] at q4
      refine r_X12_letterOdds_5 hC ⟨fun z => absurd z (by omega), fun _ => ⟨by omega, S2_X12_fitting hC hI h1 (by omega) (fun b => ⟨_, rfl, fun _ => fun x ex => ?_⟩)⟩⟩
      have mb := ck_mlb (x := w 77 (1270 + 2 * a4 + 1)) (y := rs_ft (w 77) a1 a4) (a := 99) (b := 19683) l1 (by omega)
      have mp := ck_mlp (x := w 77 (1270 + 2 * a4 + 1)) (y := rs_ft (w 77) a1 a4) l2 b.1
      rw [← ex] at q4
      exact ⟨by constructor <;> omega, by constructor <;> omega, ih _ _ (by omega) (by omega) (by omega) q4⟩
  exact e_X12_letterOdds hC (l (w 77 4).toNat 0 0 (by omega) (by omega) (by omega) rfl)
/-- what is answered of a box that shows so -/
def rs_an (f : Int → Int) (v what : Int) : Int := if what = 0 then (rs_bl f v (f 4).toNat 0 (-1, 0)).1 else if what = 1 then rs_od f v else 9 - ck_on 9 (ck_xor v (f (1270 + 2 * (what - 100))))
theorem M2_box {g : ch_G} {A R : Nat} (hC : ck_Cx g A R) {d : Nat} {K : Option ck_V → ck_W → Prop} {w : ck_W} {a1 a2 a3 a4 e : Int} {cd : Int → Int} {cp : Int → Int → Int} (hI : rm_I A R w) (hc : rm_cps w cp) (hX : (0 ≤ a1 ∧ a1 < w 77 0) → cX (800 * a1) (w 79 (800 * a1)) e cd (w 79))
    (h1 : ((0 ≤ a1 ∧ a1 < w 77 0) ∧ ((0 ≤ a4 ∧ a4 ≤ 1) ∨ (100 ≤ a4 ∧ a4 < 100 + w 77 4)) ∧ 1 ≤ w 77 4) → ∀ w1 w', rm_wf w w1 → (∀ z, 0 ≤ z → z ≤ 5 → rm_w2 A R w z (w 77 (10 + z) * A) (cp z) w1) → rm_bx w1 a2 a3 → rm_q w w' → (0 ≤ cb_or (fun i j => rs_ik A R (w 77) (w1 85) cd (w 79 (800 * a1) + e).toNat (a2 + i) (a3 + j)) 9 ∧ cb_or (fun i j => rs_ik A R (w 77) (w1 85) cd (w 79 (800 * a1) + e).toNat (a2 + i) (a3 + j)) 9 < 512) → K (some (.inl (rs_an (w 77) (cb_or (fun i j => rs_ik A R (w 77) (w1 85) cd (w 79 (800 * a1) + e).toNat (a2 + i) (a3 + j)) 9) a4))) w')
    (h0 : ∀ w', rm_q w w' → (((0 ≤ a1 ∧ a1 < w 77 0) ∧ ((0 ≤ a4 ∧ a4 ≤ 1) ∨ (100 ≤ a4 ∧ a4 < 100 + w 77 4)) ∧ 1 ≤ w 77 4) → ∃ w1, rm_wf w w1 ∧ (∀ z, 0 ≤ z → z ≤ 5 → rm_w2 A R w z (w 77 (10 + z) * A) (cp z) w1) ∧ ¬ rm_bx w1 a2 a3) → K (some (.inl (-1))) w') : ck_Ex (ch_C g A R) (d + 7) mX12_box [.inr (.inr 76), .inl a1, .inl a2, .inl a3, .inl a4] w K := by
  refine ck_exi (fun ha => ?_)
  have f0 := rm_c0 hI.2.2.2.1
  have i3 : ck_i a3 := ha.2.2.2.1
  have i4 : ck_i a4 := ha.2.2.2.2.1
  have no : ¬ ((0 ≤ a1 ∧ a1 < w 77 0) ∧ ((0 ≤ a4 ∧ a4 ≤ 1) ∨ (100 ≤ a4 ∧ a4 < 100 + w 77 4)) ∧ 1 ≤ w 77 4) → K (some (.inl (-1))) w := fun q => h0 w rm_q_rf (fun y => absurd y q)
  have main : ((0 ≤ a1 ∧ a1 < w 77 0) ∧ ((0 ≤ a4 ∧ a4 ≤ 1) ∨ (100 ≤ a4 ∧ a4 < 100 + w 77 4)) ∧ 1 ≤ w 77 4) → ck_At (ch_C g A R) (d + 7) mX12_box K 41 [some (.inr (.inr 76)), some (.inl a1), some (.inl a2), some (.inl a3), some (.inl a4), none] [] w := fun cnd => by
    refine r_X12_box_41 hC (S2_X12_windAll hC hI hc (fun w1 i1 i2 => ⟨rfl, ?_⟩))
    have s1 : rm_st A R w w1 := ⟨rm_q_wf i1, rm_I_q hI (rm_q_wf i1), rm_wa_of hC hI i1 (fun z a b => (i2 z a b).1)⟩
    have s11 : rm_st A R w1 w1 := ⟨rm_q_rf, s1.2⟩
    have e77 := s1.1.2.1
    have e79 := s1.1.2.2.2.1
    refine S2_X12_isBox hC s1.2.1 i3 (fun bx => ⟨_, rfl, fun _ => ⟨fun _ => ?_, fun z => absurd z (by decide)⟩⟩) (fun bx => ⟨_, rfl, fun _ => ⟨fun z => absurd rfl z, fun _ => h0 _ s1.1 (fun _ => ⟨w1, i1, fun z a b => (i2 z a b).2, bx⟩)⟩⟩)
    refine S2_X12_bitsAt (e := e) (cd := cd) hC s11 (by rw [e77]; exact cnd.1) bx (by rw [e79]; exact hX cnd.1) (fun w2 b2 b1 => ⟨_, rfl, fun _ => ?_⟩)
    rw [e77, e79] at b1 ⊢
    have s2 := rm_st_ink s1 b2
    have e772 := s2.1.2.1
    have k := h1 cnd w1 w2 i1 (fun z a b => (i2 z a b).2) bx s2.1 b1
    generalize cb_or (fun i j => rs_ik A R (w 77) (w1 85) cd (w 79 (800 * a1) + e).toNat (a2 + i) (a3 + j)) 9 = v at *
    unfold rs_an at k
    refine ⟨fun z => ⟨fun z2 => ?_, fun z2 => ?_⟩, fun z => ?_⟩
    · rw [if_neg z, if_neg z2] at k
      have lb := rm_let0 hI.2.2.2.1 (k := a4 - 100) (by omega) (by omega)
      have xb := kb_xor9 (x := v) (y := w 77 (1270 + 2 * (a4 - 100))) b1 (by omega)
      have ob := ck_onb xb 9 (by decide)
      rw [e772]
      exact ⟨by omega, xb, by constructor <;> omega, k⟩
    · rw [if_neg z, if_pos z2] at k
      exact S2_X12_letterOdds hC s2.2.1 b1 (by rw [e772]; omega) ⟨_, rfl, fun _ => by rw [e772]; exact k⟩
    · rw [if_pos z] at k
      exact S2_X12_letterOf hC s2.2.1 b1 (fun _ _ => ⟨_, rfl, fun _ => by rw [e772]; exact k⟩)
  have c4 := ck_wr_add (a := a4) (b := -100) i4 (by omega)
  rw [show a4 + -100 = a4 - 100 by omega] at c4
  refine e_X12_box hC ⟨by omega, fun q1 => ⟨fun q2 => ⟨fun q3 => main (by omega), fun q3 => no (fun x => by omega)⟩, fun q2 => ⟨by omega, fun q3 => ⟨fun q4 => main (by omega), fun q4 => no (fun x => by omega)⟩, fun q3 => no (fun x => by omega)⟩⟩, fun q1 => no (fun x => by omega)⟩
