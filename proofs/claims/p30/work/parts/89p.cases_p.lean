/-! ===== both systems: plan ===== -/
theorem J2_plan {g : ch_G} {A R : Nat} (hC : ck_Cx g A R) {w : ck_W} {P : Int → Int → ck_W → Prop} (hJ : cj_J A R w) {a1 a2 : Int} (H : ∀ v w2, cj_J A R w2 → P v v w2) : ck_CI (ch_C g A R) 11 mX11_plan [.inr (.inr 0), .inl a1, .inl a2] w (fun v w1 => ck_CI (ch_C g A R) 11 mX12_plan [.inr (.inr 76), .inl a1, .inl a2] w1 (fun v2 w2 => P v v2 w2)) := by
  have cp := hJ.2.2.1
  obtain ⟨hI, hN, hK, hZ⟩ := hJ.1
  obtain ⟨n1, ⟨n2, n3, n4⟩, n5, ⟨n6, n7⟩, n8, n9⟩ := hN
  have n0 := n9.1
  have e6 : w 20 3 = w 77 6 := cp.2.2.2.2.2.1
  have cq := cp.2.2.2.2.2.2.2.2.2.2.2.2
  have hIq : ∀ w1, (∀ k, k ≠ 25 → k ≠ 26 → w1 k = w k) → cj_J A R w1 := fun w1 e => cj_quiet hC hJ (fun k hk => e k (by omega) (by omega)) (cw_IV_fr hC hI (fun k hk => e k (by omega) (by omega))) rm_q_rf
  refine C2_plan (d := 8) hC n9 (fun w1 q1 q2 fr hV v ev => ⟨_, rfl, fun _ => ?_⟩) (fun no => ⟨_, rfl, fun _ => M2_plan (d := 10) hC hJ.2.1 (fun s q1 q2 => absurd ⟨q1, q2⟩ no) (fun _ => ⟨_, rfl, fun _ => H _ w hJ⟩)⟩)
  have J1 := hIq w1 fr
  have e77 : w1 77 = w 77 := fr 77 (by decide) (by decide)
  refine M2_plan (d := 10) hC J1.2.1 (fun s _ _ hB v2 ev2 => ⟨_, rfl, fun _ => ?_⟩) (fun no => absurd ⟨q1, q2⟩ no)
  rw [e77, ← e6] at hB ev2
  generalize hN : (w 20 3).toNat = N at *
  have sH : ∀ b, qk_s (w 22) b N = qk_s (pm_W (w 77)) b N := fun b => qk_sc N (fun k hk => ⟨rfl, (cq.1 k (by omega) (by omega)).2.1⟩)
  have hE : ∀ b, qk_h (w 21) (w 23) (w 24) N b = qk_h (pm_H (w 77)) (pm_L (w 77)) (pm_F (w 77)) N b := fun b => qk_hC (fun _ _ => rfl) (fun k hk => (cq.1 k (by omega) (by omega)).1) (fun k hk => (cq.1 k (by omega) (by omega)).2.2) (fun i i0 i1 => cq.2 i i0 (by omega))
  simp only [← sH, ← hE] at hB ev2
  have hF : ∀ i, 0 ≤ i → i < 4 → 0 ≤ w 24 i := fun i i0 i1 => (n9.2.2 i i0 i1).1
  have hf0 : ∀ P : Int → Prop, 0 ≤ qk_f (w 24) P := fun P => by
    have := qk_fm (F := w 24) (P := fun _ => False) (Q := P) hF (fun _ z => z.elim)
    rw [qk_f0 (fun _ z => z)] at this
    exact this
  have E := qk_end (by omega) q1.1 (fun b => by
    have := (qk_sb (t := w 21) (b := b) (B := 50) N (fun k hk => by have := n9.2.1 k (by omega) (by omega); omega)).1
    have := hf0 (qk_u (w 23) b N)
    unfold qk_h; omega) (fun b => (qk_sb (B := 65470464) N (fun k hk => by
    have := n9.2.1 k (by omega) (by omega)
    have := cs_pp (k := k) (by omega)
    unfold qk_G; omega)).1) (fun b => (qk_sb (B := 999) N (fun k hk => by have := n9.2.1 k (by omega) (by omega); omega)).1) hV hB
  have ee : v = v2 := by
    rw [ev, ev2, E.1]
    by_cases z : a2 = 2
    · rw [if_pos z, if_pos z]
    · rw [if_neg z, if_neg z]
      by_cases y : a2 = 1
      · rw [if_pos y, if_pos y]; exact E.2.1
      · rw [if_neg y, if_neg y, if_neg E.2.2.1]; exact E.2.2.2
  rw [ee]
  exact H _ w1 J1
