/-! ===== both systems: right without readers ===== -/
theorem C0_right {g : ch_G} {A R : Nat} (hC : ck_Cx g A R) {d : Nat} {K : Option ck_V → ck_W → Prop} {w : ck_W} {a1 a2 a3 : Int} (h0 : w 10 3 = 0) (h : K (some (.inl (-1))) w) : ck_Ex (ch_C g A R) (d + 6) mX11_right [.inr (.inr 0), .inl a1, .inl a2, .inl a3] w K :=
  e_X11_right hC (p_X4_has hC (by omega) (fun ok => (show False by omega).elim) (fun _ => ⟨_, rfl, fun _ => ⟨fun _ => h, fun z => absurd rfl z⟩⟩))
theorem M0_right {g : ch_G} {A R : Nat} (hC : ck_Cx g A R) {d : Nat} {K : Option ck_V → ck_W → Prop} {w : ck_W} {a1 a2 a3 : Int} (h0 : w 77 0 = 0) (h : K (some (.inl (-1))) w) : ck_Ex (ch_C g A R) (d + 7) mX12_right [.inr (.inr 76), .inl a1, .inl a2, .inl a3] w K :=
  e_X12_right hC ⟨by constructor <;> omega, fun q1 => (show False by omega).elim, fun _ => h⟩
theorem J0_right {g : ch_G} {A R : Nat} (hC : ck_Cx g A R) {w : ck_W} {P : Int → Int → ck_W → Prop} (h0 : w 77 0 = 0) (hJ : cj_J A R w) {a1 a2 a3 : Int} (H : ∀ v w2, cj_J A R w2 → P v v w2) : ck_CI (ch_C g A R) 11 mX11_right [.inr (.inr 0), .inl a1, .inl a2, .inl a3] w (fun v w1 => ck_CI (ch_C g A R) 11 mX12_right [.inr (.inr 76), .inl a1, .inl a2, .inl a3] w1 (fun v2 w2 => P v v2 w2)) := by
  have er : w 10 3 = w 77 0 := hJ.2.2.2.2.2.1.1
  exact C0_right (d := 5) hC (by omega) ⟨_, rfl, fun _ => M0_right (d := 4) hC h0 ⟨_, rfl, fun _ => H _ w hJ⟩⟩
