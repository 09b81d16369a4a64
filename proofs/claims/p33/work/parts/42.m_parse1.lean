/-! ===== the reference: the pile of a sum, steps written ===== -/
def pl_op (p : Int → Int) : Nat → Int
  | 0 => 0
  | k + 1 => pl_op p k + (if p (k : Int) = 2 ∨ p (k : Int) = 40 then 1 else 0)
def pl_sv (p : Int → Int) : Nat → Int
  | 0 => 0
  | k + 1 => if p (k : Int) = 2 ∨ p (k : Int) = 40 then 0 else if p (k : Int) ≤ 4 then 1 else 2
def pl_b (p : Int → Int) : Nat → Int
  | 0 => 0
  | k + 1 => pl_b p k + (if 3 ≤ p (k : Int) ∧ p (k : Int) ≤ 6 then 1 else 0)
def pl_ok (p : Int → Int) (n : Nat) : Prop := (∀ k : Nat, k < n → (2 ≤ p (k : Int) ∧ p (k : Int) ≤ 6) ∨ p (k : Int) = 40) ∧ ∀ k : Nat, k ≤ n → (k : Int) ≤ 3 * pl_op p k + pl_sv p k
theorem pl_c {p p' : Int → Int} : ∀ {n : Nat}, (∀ k : Nat, k < n → p' (k : Int) = p (k : Int)) → pl_op p' n = pl_op p n ∧ pl_sv p' n = pl_sv p n ∧ pl_b p' n = pl_b p n
  | 0, _ => ⟨rfl, rfl, rfl⟩
  | n + 1, h => by
    have i := pl_c (p := p) (p' := p') (n := n) (fun k hk => h k (by omega))
    have e := h n (by omega)
    simp only [pl_op, pl_sv, pl_b, e, i.1, i.2.2]
    exact ⟨trivial, trivial, trivial⟩
theorem pl_b0 (p : Int → Int) : ∀ n : Nat, 0 ≤ pl_b p n
  | 0 => by simp [pl_b]
  | n + 1 => by
    have := pl_b0 p n
    simp only [pl_b]
    split <;> omega
theorem pl_op0 (p : Int → Int) : ∀ n : Nat, 0 ≤ pl_op p n
  | 0 => by simp [pl_op]
  | n + 1 => by
    have := pl_op0 p n
    simp only [pl_op]
    split <;> omega
theorem pl_sv2 (p : Int → Int) (n : Nat) : 0 ≤ pl_sv p n ∧ pl_sv p n ≤ 2 := by
  cases n with
  | zero => simp [pl_sv]
  | succ n =>
    simp only [pl_sv]
    split
    · omega
    · split <;> omega
theorem pl_ok_c {p p' : Int → Int} {n : Nat} (h : pl_ok p n) (e : ∀ k : Nat, k < n → p' (k : Int) = p (k : Int)) : pl_ok p' n := by
  refine ⟨fun k hk => by rw [e k hk]; exact h.1 k hk, fun k hk => ?_⟩
  have c := pl_c (p := p) (p' := p') (n := k) (fun j hj => e j (by omega))
  rw [c.1, c.2.1]; exact h.2 k hk
theorem pl_ok_pop {p : Int → Int} {n : Nat} (h : pl_ok p (n + 1)) : pl_ok p n := ⟨fun k hk => h.1 k (by omega), fun k hk => h.2 k (by omega)⟩
theorem pl_ok_push {p : Int → Int} {n : Nat} {o : Int} (h : pl_ok p n) (ho : (2 ≤ o ∧ o ≤ 6) ∨ o = 40) (h3 : (o = 3 ∨ o = 4) → pl_sv p n = 0) (h5 : (o = 5 ∨ o = 6) → pl_sv p n ≤ 1) : pl_ok (rm_u p (n : Int) o) (n + 1) := by
  have e : ∀ k : Nat, k < n → rm_u p (n : Int) o (k : Int) = p (k : Int) := fun k hk => rm_u_ne (by omega)
  have o' : pl_ok (rm_u p (n : Int) o) n := pl_ok_c h e
  refine ⟨fun k hk => ?_, fun k hk => ?_⟩
  · by_cases x : k = n
    · subst x; rw [rm_u_eq]; exact ho
    · rw [e k (by omega)]; exact h.1 k (by omega)
  · by_cases x : k = n + 1
    · subst x
      have c := pl_c (p := p) (p' := rm_u p (n : Int) o) (n := n) e
      have hn := h.2 n (by omega)
      have s2 := pl_sv2 p n
      simp only [pl_op, pl_sv, rm_u_eq, c.1]
      by_cases y : o = 2 ∨ o = 40
      · rw [if_pos y, if_pos y]; omega
      · rw [if_neg y, if_neg y]
        by_cases z : o ≤ 4
        · rw [if_pos z]; have := h3 (by omega); omega
        · rw [if_neg z]; have := h5 (by omega); omega
    · exact o'.2 k (by omega)
/-- a step more -/
theorem tx_c {t t' : Int → Int} {c s : Int} : ∀ {q : Nat}, (∀ j, c + 2 * s ≤ j → j < c + 2 * (s + q) → t' j = t j) → tx_st t' c s q = tx_st t c s q
  | 0, _ => rfl
  | q + 1, h => by
    rw [tx_st, tx_st, tx_c (t := t) (t' := t') (q := q) (fun j a b => h j a (by omega)), h _ (by omega) (by omega), h _ (by omega) (by omega)]
theorem tx_emit {t : Int → Int} {c s wr o v : Int} (h : s ≤ wr) : tx_st (rm_u (rm_u t (c + 2 * wr) o) (c + 2 * wr + 1) v) c s (wr + 1 - s).toNat = (tx_st t c s (wr - s).toNat).bind (tx_eff o v) := by
  rw [show (wr + 1 - s).toNat = (wr - s).toNat + 1 by omega, tx_st, show s + ((wr - s).toNat : Int) = wr by omega, rm_u_eq, rm_u_ne (by omega), rm_u_eq]
  rw [tx_c (t := t) (fun j a b => by rw [rm_u_ne (by omega), rm_u_ne (by omega)])]
/-- what parsing leaves as it was: other cells, other fields, what is written -/
def pr (u u' : ck_W) : Prop := (∀ k, k ≠ 76 → k ≠ 79 → k ≠ 90 → u' k = u k) ∧ (∀ j, j < 19 ∨ j = 24 → u' 76 j = u 76 j) ∧ (∀ j, j < u 76 24 + 50 + 2 * u 76 26 → u' 79 j = u 79 j) ∧ u 76 26 ≤ u' 76 26 ∧ (0 ≤ u 76 22 → 0 ≤ u' 76 22)
theorem pr_rf {u : ck_W} : pr u u := ⟨fun _ _ _ _ => rfl, fun _ _ => rfl, fun _ _ => rfl, Int.le_refl _, id⟩
theorem pr_tr {u u1 u2 : ck_W} (a : pr u u1) (b : pr u1 u2) : pr u u2 := by
  have e24 := a.2.1 24 (by omega)
  refine ⟨fun k x y z => (b.1 k x y z).trans (a.1 k x y z), fun j hj => (b.2.1 j hj).trans (a.2.1 j hj), fun j hj => ?_, Int.le_trans a.2.2.2.1 b.2.2.2.1, fun q => b.2.2.2.2 (a.2.2.2.2 q)⟩
  rw [b.2.2.1 j (by have := a.2.2.2.1; omega), a.2.2.1 j hj]
theorem pr_nt {u u' : ck_W} (h : rm_nt u u') (h4 : 0 ≤ u' 76 22) : pr u u' := ⟨fun k x _ _ => h.1 k x, fun j hj => h.2 j (by omega), fun j _ => by rw [h.1 79 (by decide)], by rw [h.2 26 (by omega)]; omega, fun _ => h4⟩
theorem pr_up {u : ck_W} {i v : Int} (h0 : 19 ≤ i) (h1 : i ≠ 24) (h2 : i ≠ 26) (h3 : i ≠ 22 := by omega) : pr u (ck_up u 76 i v) := ⟨fun k x _ _ => by rw [ck_up_ne x], fun j hj => by rw [ck_up_nj (by omega)], fun j _ => by rw [ck_up_ne (by decide)], by rw [ck_up_nj (by omega)]; omega, fun q => by rw [ck_up_nj (by omega)]; exact q⟩
theorem dX12_emit_0 : decode cX12_emit 0 = .ok (.aload_n 0, 1) := dk_42 (by decide +kernel)
theorem dX12_emit_1 : decode cX12_emit 1 = .ok (.getfield 16, 3) := dk_180 0 16 (by decide +kernel)
theorem dX12_emit_4 : decode cX12_emit 4 = .ok (.aload_n 0, 1) := dk_42 (by decide +kernel)
theorem dX12_emit_5 : decode cX12_emit 5 = .ok (.getfield 217, 3) := dk_180 0 217 (by decide +kernel)
theorem dX12_emit_8 : decode cX12_emit 8 = .ok (.bipush 50, 2) := dk_16 50 (by decide +kernel)
theorem dX12_emit_10 : decode cX12_emit 10 = .ok (.iadd, 1) := dk_96 (by decide +kernel)
theorem dX12_emit_11 : decode cX12_emit 11 = .ok (.iconst 2, 1) := dk_5 (by decide +kernel)
theorem dX12_emit_12 : decode cX12_emit 12 = .ok (.aload_n 0, 1) := dk_42 (by decide +kernel)
theorem dX12_emit_13 : decode cX12_emit 13 = .ok (.getfield 220, 3) := dk_180 0 220 (by decide +kernel)
theorem dX12_emit_16 : decode cX12_emit 16 = .ok (.imul, 1) := dk_104 (by decide +kernel)
theorem dX12_emit_17 : decode cX12_emit 17 = .ok (.iadd, 1) := dk_96 (by decide +kernel)
theorem dX12_emit_18 : decode cX12_emit 18 = .ok (.iload_n 1, 1) := dk_27 (by decide +kernel)
theorem dX12_emit_19 : decode cX12_emit 19 = .ok (.iastore, 1) := dk_79 (by decide +kernel)
theorem dX12_emit_20 : decode cX12_emit 20 = .ok (.aload_n 0, 1) := dk_42 (by decide +kernel)
theorem dX12_emit_21 : decode cX12_emit 21 = .ok (.getfield 16, 3) := dk_180 0 16 (by decide +kernel)
theorem dX12_emit_24 : decode cX12_emit 24 = .ok (.aload_n 0, 1) := dk_42 (by decide +kernel)
theorem dX12_emit_25 : decode cX12_emit 25 = .ok (.getfield 217, 3) := dk_180 0 217 (by decide +kernel)
theorem dX12_emit_28 : decode cX12_emit 28 = .ok (.bipush 50, 2) := dk_16 50 (by decide +kernel)
theorem dX12_emit_30 : decode cX12_emit 30 = .ok (.iadd, 1) := dk_96 (by decide +kernel)
theorem dX12_emit_31 : decode cX12_emit 31 = .ok (.iconst 2, 1) := dk_5 (by decide +kernel)
theorem dX12_emit_32 : decode cX12_emit 32 = .ok (.aload_n 0, 1) := dk_42 (by decide +kernel)
theorem dX12_emit_33 : decode cX12_emit 33 = .ok (.getfield 220, 3) := dk_180 0 220 (by decide +kernel)
theorem dX12_emit_36 : decode cX12_emit 36 = .ok (.imul, 1) := dk_104 (by decide +kernel)
theorem dX12_emit_37 : decode cX12_emit 37 = .ok (.iadd, 1) := dk_96 (by decide +kernel)
theorem dX12_emit_38 : decode cX12_emit 38 = .ok (.iconst 1, 1) := dk_4 (by decide +kernel)
theorem dX12_emit_39 : decode cX12_emit 39 = .ok (.iadd, 1) := dk_96 (by decide +kernel)
theorem dX12_emit_40 : decode cX12_emit 40 = .ok (.iload_n 2, 1) := dk_28 (by decide +kernel)
theorem dX12_emit_41 : decode cX12_emit 41 = .ok (.iastore, 1) := dk_79 (by decide +kernel)
theorem dX12_emit_42 : decode cX12_emit 42 = .ok (.aload_n 0, 1) := dk_42 (by decide +kernel)
theorem dX12_emit_43 : decode cX12_emit 43 = .ok (.dup, 1) := dk_89 (by decide +kernel)
theorem dX12_emit_44 : decode cX12_emit 44 = .ok (.getfield 220, 3) := dk_180 0 220 (by decide +kernel)
theorem dX12_emit_47 : decode cX12_emit 47 = .ok (.iconst 1, 1) := dk_4 (by decide +kernel)
theorem dX12_emit_48 : decode cX12_emit 48 = .ok (.iadd, 1) := dk_96 (by decide +kernel)
theorem dX12_emit_49 : decode cX12_emit 49 = .ok (.putfield 220, 3) := dk_181 0 220 (by decide +kernel)
theorem dX12_emit_52 : decode cX12_emit 52 = .ok (.return_, 1) := dk_177 (by decide +kernel)
set_option maxRecDepth 8000 in
theorem e_X12_emit {g : ch_G} {A R : Nat} (hC : ck_Cx g A R) {d : Nat} {K : Option ck_V → ck_W → Prop} {w : ck_W} {a1 a2 : Int} (h : (0 ≤ (((w 76 24) + 50) + (2 * (w 76 26))) ∧ (((w 76 24) + 50) + (2 * (w 76 26))) < 3200) ∧ ((0 ≤ ((((w 76 24) + 50) + (2 * (w 76 26))) + 1) ∧ ((((w 76 24) + 50) + (2 * (w 76 26))) + 1) < 3200) ∧ (ck_i ((w 76 26) + 1) ∧ (K none (ck_up (ck_up (ck_up w 79 (((w 76 24) + 50) + (2 * (w 76 26))) a1) 79 ((((w 76 24) + 50) + (2 * (w 76 26))) + 1) a2) 76 26 ((w 76 26) + 1)))))) : ck_Ex (ch_C g A R) d mX12_emit [.inr (.inr 76), .inl a1, .inl a2] w K :=
  ck_entry hC.1 [some (.inr (.inr 76)), some (.inl a1), some (.inl a2)] (by decide) (Nat.le_of_ble_eq_true rfl) rfl (fun q => q) (ck_in (fun hl => (ck_aload_n 1 rfl 0 dX12_emit_0 rfl rfl (ck_getr 4 rfl dX12_emit_1 fl_X12_16 sh_76 rfl (ck_aload_n 5 rfl 0 dX12_emit_4 rfl rfl (ck_geti 8 rfl 24 dX12_emit_5 fl_X12_217 sh_76 rfl rfl _ rfl (fun (q1 : ck_i (w 76 24)) => (ck_bipush 10 rfl dX12_emit_8 rfl (ck_iadd 11 rfl dX12_emit_10 (ck_iconst 12 rfl dX12_emit_11 rfl (ck_aload_n 13 rfl 0 dX12_emit_12 rfl rfl (ck_geti 16 rfl 26 dX12_emit_13 fl_X12_220 sh_76 rfl rfl _ rfl (fun (q2 : ck_i (w 76 26)) => (ck_imul 17 rfl dX12_emit_16 (ck_iadd 18 rfl dX12_emit_17 (ck_iload_n 19 rfl 1 dX12_emit_18 rfl rfl (have h10 := h; have o3 := h10.1; have h9 := h10.2; (ck_iast 20 rfl dX12_emit_19 sh_79 (shn_79 hC) o3 hl.2.1 (ck_aload_n 21 rfl 0 dX12_emit_20 rfl rfl (ck_getr 24 rfl dX12_emit_21 fl_X12_16 sh_76 rfl (ck_aload_n 25 rfl 0 dX12_emit_24 rfl rfl (ck_geti 28 rfl 24 dX12_emit_25 fl_X12_217 sh_76 rfl rfl _ rfl (fun (q4 : ck_i (w 76 24)) => (ck_bipush 30 rfl dX12_emit_28 rfl (ck_iadd 31 rfl dX12_emit_30 (ck_iconst 32 rfl dX12_emit_31 rfl (ck_aload_n 33 rfl 0 dX12_emit_32 rfl rfl (ck_geti 36 rfl 26 dX12_emit_33 fl_X12_220 sh_76 rfl rfl _ rfl (fun (q5 : ck_i (w 76 26)) => (ck_imul 37 rfl dX12_emit_36 (ck_iadd 38 rfl dX12_emit_37 (ck_iconst 39 rfl dX12_emit_38 rfl (ck_iadd 40 rfl dX12_emit_39 (ck_iload_n 41 rfl 2 dX12_emit_40 rfl rfl (have h12 := h9; have o6 := h12.1; have h11 := h12.2; (ck_iast 42 rfl dX12_emit_41 sh_79 (shn_79 hC) o6 hl.2.2.1 (ck_aload_n 43 rfl 0 dX12_emit_42 rfl rfl (ck_dup 44 rfl dX12_emit_43 rfl (ck_geti 47 rfl 26 dX12_emit_44 fl_X12_220 sh_76 rfl rfl _ rfl (fun (q7 : ck_i (w 76 26)) => (ck_iconst 48 rfl dX12_emit_47 rfl (ck_iadd 49 rfl dX12_emit_48 (have h14 := h11; have o8 := h14.1; have h13 := h14.2; (ck_puti 52 rfl 26 dX12_emit_49 fp_X12_220 sh_76 rfl rfl o8 (ck_vret dX12_emit_52 rfl h13)))))))))))))))))))))))))))))))))))))))))))))
theorem S_X12_emit {g : ch_G} {A R : Nat} (hC : ck_Cx g A R) {d : Nat} {K : Option ck_V → ck_W → Prop} {w : ck_W} {a1 a2 : Int} (hX : 0 ≤ w 76 24 ∧ w 76 24 ≤ 2400) (hw : 0 ≤ w 76 26 ∧ w 76 26 ≤ 300) (h : ∀ w', pr w w' → (∀ k, k ≠ 76 → k ≠ 79 → w' k = w k) → (∀ j, j ≠ 26 → w' 76 j = w 76 j) → w' 76 26 = w 76 26 + 1 → w' 79 = rm_u (rm_u (w 79) (w 76 24 + 50 + 2 * w 76 26) a1) (w 76 24 + 50 + 2 * w 76 26 + 1) a2 → K none w') : ck_Ex (ch_C g A R) d mX12_emit [.inr (.inr 76), .inl a1, .inl a2] w K := by
  refine e_X12_emit hC ⟨by omega, by omega, by constructor <;> omega, h _ ⟨fun k x y z => ?_, fun j hj => ?_, fun j hj => ?_, ?_, fun q => ?_⟩ (fun k x y => ?_) (fun j hj => ?_) ?_ ?_⟩
  · rw [ck_up_ne x, ck_up_ne y, ck_up_ne y]
  · rw [ck_up_nj (by omega)]; rfl
  · rw [ck_up_ne (by decide), ck_up_nj (by omega), ck_up_nj (by omega)]
  · rw [ck_up_eq]; omega
  · rw [ck_up_nj (by decide)]; exact q
  · rw [ck_up_ne x, ck_up_ne y, ck_up_ne y]
  · rw [ck_up_nj hj]; rfl
  · rw [ck_up_eq]
  · rw [ck_up_ne (by decide), ck_up_row, ck_up_row]
/-- the state within a sum: T bytes; the text X; the clause's steps from s on; E steps owed outside; N open outside; numbers n, truths m ahead -/
def pz (T X s E N n m : Int) (u : ck_W) : Prop :=
  (0 ≤ u 76 20 ∧ u 76 20 ≤ u 76 19 ∧ u 76 19 ≤ T) ∧ (u 76 21 = 0 ∨ u 76 20 < u 76 19) ∧ 0 ≤ u 76 22 ∧ (u 76 16 = T ∧ u 76 24 = X) ∧
  (0 ≤ s ∧ s ≤ u 76 26) ∧ 0 ≤ u 76 29 ∧ u 76 26 + u 76 29 + E ≤ u 76 20 ∧ pl_ok (u 90) (u 76 29).toNat ∧ (pl_op (u 90) (u 76 29).toNat + N ≤ u 76 30 ∧ u 76 30 ≤ 8) ∧ (u 76 31 = 0 ∨ u 76 31 = 1) ∧
  tx_st (u 79) (X + 50) s (u 76 26 - s).toNat = some (n + pl_b (u 90) (u 76 29).toNat + u 76 31, m)
theorem pz_piled {T X s E N n m : Int} {u : ck_W} (h : pz T X s E N n m u) (hN : 0 ≤ N) : u 76 29 ≤ 26 := by
  obtain ⟨-, -, -, -, -, h6, -, h8, h9, -, -⟩ := h
  have a := h8.2 (u 76 29).toNat (by omega)
  have b := pl_sv2 (u 90) (u 76 29).toNat
  omega
theorem dX12_whole_0 : decode cX12_whole 0 = .ok (.aload_n 0, 1) := dk_42 (by decide +kernel)
theorem dX12_whole_1 : decode cX12_whole 1 = .ok (.iconst 1, 1) := dk_4 (by decide +kernel)
theorem dX12_whole_2 : decode cX12_whole 2 = .ok (.putfield 226, 3) := dk_181 0 226 (by decide +kernel)
theorem dX12_whole_5 : decode cX12_whole 5 = .ok (.aload_n 0, 1) := dk_42 (by decide +kernel)
theorem dX12_whole_6 : decode cX12_whole 6 = .ok (.getfield 223, 3) := dk_180 0 223 (by decide +kernel)
theorem dX12_whole_9 : decode cX12_whole 9 = .ok (.ifCond .le 47, 3) := dk_158 0 47 (by decide +kernel)
theorem dX12_whole_12 : decode cX12_whole 12 = .ok (.aload_n 0, 1) := dk_42 (by decide +kernel)
theorem dX12_whole_13 : decode cX12_whole 13 = .ok (.getfield 58, 3) := dk_180 0 58 (by decide +kernel)
theorem dX12_whole_16 : decode cX12_whole 16 = .ok (.aload_n 0, 1) := dk_42 (by decide +kernel)
theorem dX12_whole_17 : decode cX12_whole 17 = .ok (.getfield 223, 3) := dk_180 0 223 (by decide +kernel)
theorem dX12_whole_20 : decode cX12_whole 20 = .ok (.iconst 1, 1) := dk_4 (by decide +kernel)
theorem dX12_whole_21 : decode cX12_whole 21 = .ok (.isub, 1) := dk_100 (by decide +kernel)
theorem dX12_whole_22 : decode cX12_whole 22 = .ok (.iaload, 1) := dk_46 (by decide +kernel)
theorem dX12_whole_23 : decode cX12_whole 23 = .ok (.iconst 2, 1) := dk_5 (by decide +kernel)
theorem dX12_whole_24 : decode cX12_whole 24 = .ok (.if_icmp .ne 32, 3) := dk_160 0 32 (by decide +kernel)
theorem dX12_whole_27 : decode cX12_whole 27 = .ok (.aload_n 0, 1) := dk_42 (by decide +kernel)
theorem dX12_whole_28 : decode cX12_whole 28 = .ok (.dup, 1) := dk_89 (by decide +kernel)
theorem dX12_whole_29 : decode cX12_whole 29 = .ok (.getfield 223, 3) := dk_180 0 223 (by decide +kernel)
theorem dX12_whole_32 : decode cX12_whole 32 = .ok (.iconst 1, 1) := dk_4 (by decide +kernel)
theorem dX12_whole_33 : decode cX12_whole 33 = .ok (.isub, 1) := dk_100 (by decide +kernel)
theorem dX12_whole_34 : decode cX12_whole 34 = .ok (.putfield 223, 3) := dk_181 0 223 (by decide +kernel)
theorem dX12_whole_37 : decode cX12_whole 37 = .ok (.aload_n 0, 1) := dk_42 (by decide +kernel)
theorem dX12_whole_38 : decode cX12_whole 38 = .ok (.dup, 1) := dk_89 (by decide +kernel)
theorem dX12_whole_39 : decode cX12_whole 39 = .ok (.getfield 230, 3) := dk_180 0 230 (by decide +kernel)
theorem dX12_whole_42 : decode cX12_whole 42 = .ok (.iconst 1, 1) := dk_4 (by decide +kernel)
theorem dX12_whole_43 : decode cX12_whole 43 = .ok (.isub, 1) := dk_100 (by decide +kernel)
theorem dX12_whole_44 : decode cX12_whole 44 = .ok (.putfield 230, 3) := dk_181 0 230 (by decide +kernel)
theorem dX12_whole_47 : decode cX12_whole 47 = .ok (.aload_n 0, 1) := dk_42 (by decide +kernel)
theorem dX12_whole_48 : decode cX12_whole 48 = .ok (.iconst 2, 1) := dk_5 (by decide +kernel)
theorem dX12_whole_49 : decode cX12_whole 49 = .ok (.iconst 0, 1) := dk_3 (by decide +kernel)
theorem dX12_whole_50 : decode cX12_whole 50 = .ok (.invokevirtual 233, 3) := dk_182 0 233 (by decide +kernel)
theorem dX12_whole_53 : decode cX12_whole 53 = .ok (.goto (-48), 3) := dk_167 255 208 (by decide +kernel)
theorem dX12_whole_56 : decode cX12_whole 56 = .ok (.return_, 1) := dk_177 (by decide +kernel)
set_option maxRecDepth 8000 in
theorem e_X12_whole {g : ch_G} {A R : Nat} (hC : ck_Cx g A R) {d : Nat} {K : Option ck_V → ck_W → Prop} {w : ck_W} (h : ck_At (ch_C g A R) (d + 1) mX12_whole K 5 [some (.inr (.inr 76))] [] (ck_up w 76 31 1)) : ck_Ex (ch_C g A R) (d + 1) mX12_whole [.inr (.inr 76)] w K :=
  ck_entry hC.1 [some (.inr (.inr 76))] (by decide) (Nat.le_of_ble_eq_true rfl) rfl (fun q => q) (ck_in (fun hl => (ck_aload_n 1 rfl 0 dX12_whole_0 rfl rfl (ck_iconst 2 rfl dX12_whole_1 rfl (ck_putz 5 rfl 31 dX12_whole_2 fp_X12_226 sh_76 rfl rfl (by decide) h)))))
set_option maxRecDepth 8000 in
theorem r_X12_whole_5 {g : ch_G} {A R : Nat} (hC : ck_Cx g A R) {d : Nat} {K : Option ck_V → ck_W → Prop} {w : ck_W} (h : ((w 76 29) ≤ 0 → K none w) ∧ (¬ (w 76 29) ≤ 0 → (0 ≤ ((w 76 29) - 1) ∧ ((w 76 29) - 1) < 160) ∧ ((¬ (w 90 ((w 76 29) - 1)) = 2 → K none w) ∧ ((w 90 ((w 76 29) - 1)) = 2 → ck_i ((w 76 29) - 1) ∧ (ck_i ((w 76 30) - 1) ∧ (ck_CN (ch_C g A R) d mX12_emit [.inr (.inr 76), .inl 2, .inl 0] (ck_up (ck_up w 76 29 ((w 76 29) - 1)) 76 30 ((w 76 30) - 1)) (fun w9 => ck_At (ch_C g A R) (d + 1) mX12_whole K 5 [some (.inr (.inr 76))] [] w9))))))) : ck_At (ch_C g A R) (d + 1) mX12_whole K 5 [some (.inr (.inr 76))] [] w :=
  ck_in (fun hl => (ck_aload_n 6 rfl 0 dX12_whole_5 rfl rfl (ck_geti 9 rfl 29 dX12_whole_6 fl_X12_223 sh_76 rfl rfl _ rfl (fun (q1 : ck_i (w 76 29)) => (ck_if_le 12 rfl 56 dX12_whole_9 rfl q1 (fun c13 => (ck_vret dX12_whole_56 rfl (h.1 c13))) (fun c14 => (ck_aload_n 13 rfl 0 dX12_whole_12 rfl rfl (ck_getr 16 rfl dX12_whole_13 fl_X12_58 sh_76 rfl (ck_aload_n 17 rfl 0 dX12_whole_16 rfl rfl (ck_geti 20 rfl 29 dX12_whole_17 fl_X12_223 sh_76 rfl rfl _ rfl (fun (q2 : ck_i (w 76 29)) => (ck_iconst 21 rfl dX12_whole_20 rfl (ck_isub 22 rfl dX12_whole_21 (have h16 := (h.2 c14); have o3 := h16.1; have h15 := h16.2; (ck_iald 23 rfl dX12_whole_22 sh_90 (shn_90 hC) o3 _ rfl (fun (q4 : ck_i (w 90 ((w 76 29) - 1))) => (ck_iconst 24 rfl dX12_whole_23 rfl (ck_icmp_ne 27 rfl 56 dX12_whole_24 rfl q4 (show ck_i 2 by decide) (fun c11 => (ck_vret dX12_whole_56 rfl (h15.1 c11))) (fun c12 => (ck_aload_n 28 rfl 0 dX12_whole_27 rfl rfl (ck_dup 29 rfl dX12_whole_28 rfl (ck_geti 32 rfl 29 dX12_whole_29 fl_X12_223 sh_76 rfl rfl _ rfl (fun (q5 : ck_i (w 76 29)) => (ck_iconst 33 rfl dX12_whole_32 rfl (ck_isub 34 rfl dX12_whole_33 (have h18 := (h15.2 c12); have o6 := h18.1; have h17 := h18.2; (ck_puti 37 rfl 29 dX12_whole_34 fp_X12_223 sh_76 rfl rfl o6 (ck_aload_n 38 rfl 0 dX12_whole_37 rfl rfl (ck_dup 39 rfl dX12_whole_38 rfl (ck_geti 42 rfl 30 dX12_whole_39 fl_X12_230 sh_76 rfl rfl _ rfl (fun (q7 : ck_i (w 76 30)) => (ck_iconst 43 rfl dX12_whole_42 rfl (ck_isub 44 rfl dX12_whole_43 (have h20 := h17; have o8 := h20.1; have h19 := h20.2; (ck_puti 47 rfl 30 dX12_whole_44 fp_X12_230 sh_76 rfl rfl o8 (ck_aload_n 48 rfl 0 dX12_whole_47 rfl rfl (ck_iconst 49 rfl dX12_whole_48 rfl (ck_iconst 50 rfl dX12_whole_49 rfl (ck_callV 53 rfl [.inl 2, .inl 0] [] dX12_whole_50 cv_X12_233 sh_76 rfl rfl (Nat.le_of_ble_eq_true rfl) (And.intro (show ck_i 2 by decide) (And.intro (show ck_i 0 by decide) True.intro)) (ck_mN h19 (fun w9 h10 => (ck_goto 5 dX12_whole_53 rfl h10))))))))))))))))))))))))))))))))))))))))))
theorem L_X12_whole {g : ch_G} {A R : Nat} (hC : ck_Cx g A R) {d : Nat} {K : Option ck_V → ck_W → Prop} {w : ck_W} {T X s E N n m : Int} (hT : 0 ≤ T ∧ T ≤ 300) (hX : 0 ≤ X ∧ X ≤ 2400) (hE : 0 ≤ E) (hN : 0 ≤ N) (hn : 0 ≤ n) (q : Nat) (hq : w 76 29 ≤ q) (hz : pz T X s E N n m w) (h31 : w 76 31 = 1) (h : ∀ w', pr w w' → (∀ j, j < 26 → w' 76 j = w 76 j) → pz T X s E N n m w' → w' 76 31 = 1 → K none w') : ck_At (ch_C g A R) (d + 1) mX12_whole K 5 [some (.inr (.inr 76))] [] w := by
  induction q generalizing w with
  | zero =>
    obtain ⟨h1, h2, h3, h4, h5, h6, h7, h8, h9, h10, h11⟩ := id hz
    exact r_X12_whole_5 hC ⟨fun _ => h w pr_rf (fun _ _ => rfl) hz h31, fun z => absurd (by omega) z⟩
  | succ q ih =>
    obtain ⟨h1, h2, h3, h4, h5, h6, h7, h8, h9, h10, h11⟩ := id hz
    have pb := pz_piled hz hN
    refine r_X12_whole_5 hC ⟨fun _ => h w pr_rf (fun _ _ => rfl) hz h31, fun z => ⟨by omega, fun _ => h w pr_rf (fun _ _ => rfl) hz h31, fun y => ⟨by constructor <;> omega, by have := pl_op0 (w 90) (w 76 29).toNat; constructor <;> omega, ?_⟩⟩⟩
    -- the world handed to emit
    have p1 : pr w (ck_up (ck_up w 76 29 (w 76 29 - 1)) 76 30 (w 76 30 - 1)) := pr_tr (pr_up (i := 29) (v := w 76 29 - 1) (by omega) (by omega) (by omega)) (pr_up (i := 30) (v := w 76 30 - 1) (by omega) (by omega) (by omega))
    have f24 : (ck_up (ck_up w 76 29 (w 76 29 - 1)) 76 30 (w 76 30 - 1)) 76 24 = w 76 24 := by rw [ck_up_nj (by decide), ck_up_nj (by decide)]
    have f26 : (ck_up (ck_up w 76 29 (w 76 29 - 1)) 76 30 (w 76 30 - 1)) 76 26 = w 76 26 := by rw [ck_up_nj (by decide), ck_up_nj (by decide)]
    refine S_X12_emit hC (by rw [f24]; omega) (by rw [f26]; omega) (fun u b1 b2 b3 b4 b5 => ⟨rfl, ?_⟩)
    rw [f24, f26] at b5
    rw [f26] at b4
    have g : ∀ j, j ≠ 26 → j ≠ 29 → j ≠ 30 → u 76 j = w 76 j := fun j x y z => by rw [b3 j x, ck_up_nj z, ck_up_nj y]
    have g29 : u 76 29 = w 76 29 - 1 := by rw [b3 29 (by decide), ck_up_nj (by decide), ck_up_eq]
    have g30 : u 76 30 = w 76 30 - 1 := by rw [b3 30 (by decide), ck_up_eq]
    have g90 : u 90 = w 90 := by rw [b2 90 (by decide) (by decide)]; rfl
    have b5' : u 79 = rm_u (rm_u (w 79) (w 76 24 + 50 + 2 * w 76 26) 2) (w 76 24 + 50 + 2 * w 76 26 + 1) 0 := b5
    have e1 : (w 76 29).toNat = (w 76 29 - 1).toNat + 1 := by omega
    have k1 : (((w 76 29 - 1).toNat : Nat) : Int) = w 76 29 - 1 := by omega
    have opn : pl_op (w 90) (w 76 29).toNat = pl_op (w 90) (w 76 29 - 1).toNat + 1 := by rw [e1, pl_op, k1, y]; rfl
    have bin : pl_b (w 90) (w 76 29).toNat = pl_b (w 90) (w 76 29 - 1).toNat := by rw [e1, pl_b, k1, y]; simp
    refine ih (w := u) (by omega) ⟨?_, ?_, ?_, ?_, ?_, ?_, ?_, ?_, ?_, ?_, ?_⟩ (by rw [g 31 (by decide) (by decide) (by decide)]; exact h31) (fun w' c1 c2 c3 c4 => h w' (pr_tr (pr_tr p1 b1) c1) (fun j hj => by rw [c2 j hj, g j (by omega) (by omega) (by omega)]) c3 c4)
    · rw [g 19 (by decide) (by decide) (by decide), g 20 (by decide) (by decide) (by decide)]; exact h1
    · rw [g 19 (by decide) (by decide) (by decide), g 20 (by decide) (by decide) (by decide), g 21 (by decide) (by decide) (by decide)]; exact h2
    · rw [g 22 (by decide) (by decide) (by decide)]; exact h3
    · rw [g 16 (by decide) (by decide) (by decide), g 24 (by decide) (by decide) (by decide)]; exact h4
    · rw [b4]; omega
    · omega
    · rw [b4, g29, g 20 (by decide) (by decide) (by decide)]; omega
    · rw [g90, g29]; rw [e1] at h8; exact pl_ok_pop h8
    · rw [g90, g29, g30]; omega
    · rw [g 31 (by decide) (by decide) (by decide)]; exact h10
    · have te := tx_emit (t := w 79) (c := X + 50) (s := s) (wr := w 76 26) (o := 2) (v := 0) h5.2
      rw [b5', b4, h4.2, g90, g29, g 31 (by decide) (by decide) (by decide), te, h11, ← bin]
      show tx_eff 2 0 (n + pl_b (w 90) (w 76 29).toNat + w 76 31, m) = _
      have b0 := pl_b0 (w 90) (w 76 29).toNat
      unfold tx_eff
      rw [if_neg (by decide), if_neg (by decide), if_pos rfl, if_pos (by dsimp only; omega)]
theorem dX12_settle_0 : decode cX12_settle 0 = .ok (.aload_n 0, 1) := dk_42 (by decide +kernel)
theorem dX12_settle_1 : decode cX12_settle 1 = .ok (.getfield 223, 3) := dk_180 0 223 (by decide +kernel)
theorem dX12_settle_4 : decode cX12_settle 4 = .ok (.ifCond .le 61, 3) := dk_158 0 61 (by decide +kernel)
theorem dX12_settle_7 : decode cX12_settle 7 = .ok (.aload_n 0, 1) := dk_42 (by decide +kernel)
theorem dX12_settle_8 : decode cX12_settle 8 = .ok (.getfield 58, 3) := dk_180 0 58 (by decide +kernel)
theorem dX12_settle_11 : decode cX12_settle 11 = .ok (.aload_n 0, 1) := dk_42 (by decide +kernel)
theorem dX12_settle_12 : decode cX12_settle 12 = .ok (.getfield 223, 3) := dk_180 0 223 (by decide +kernel)
theorem dX12_settle_15 : decode cX12_settle 15 = .ok (.iconst 1, 1) := dk_4 (by decide +kernel)
theorem dX12_settle_16 : decode cX12_settle 16 = .ok (.isub, 1) := dk_100 (by decide +kernel)
theorem dX12_settle_17 : decode cX12_settle 17 = .ok (.iaload, 1) := dk_46 (by decide +kernel)
theorem dX12_settle_18 : decode cX12_settle 18 = .ok (.bipush 40, 2) := dk_16 40 (by decide +kernel)
theorem dX12_settle_20 : decode cX12_settle 20 = .ok (.if_icmp .ge 45, 3) := dk_162 0 45 (by decide +kernel)
theorem dX12_settle_23 : decode cX12_settle 23 = .ok (.aload_n 0, 1) := dk_42 (by decide +kernel)
theorem dX12_settle_24 : decode cX12_settle 24 = .ok (.getfield 58, 3) := dk_180 0 58 (by decide +kernel)
theorem dX12_settle_27 : decode cX12_settle 27 = .ok (.aload_n 0, 1) := dk_42 (by decide +kernel)
theorem dX12_settle_28 : decode cX12_settle 28 = .ok (.getfield 223, 3) := dk_180 0 223 (by decide +kernel)
theorem dX12_settle_31 : decode cX12_settle 31 = .ok (.iconst 1, 1) := dk_4 (by decide +kernel)
theorem dX12_settle_32 : decode cX12_settle 32 = .ok (.isub, 1) := dk_100 (by decide +kernel)
theorem dX12_settle_33 : decode cX12_settle 33 = .ok (.iaload, 1) := dk_46 (by decide +kernel)
theorem dX12_settle_34 : decode cX12_settle 34 = .ok (.iload_n 1, 1) := dk_27 (by decide +kernel)
theorem dX12_settle_35 : decode cX12_settle 35 = .ok (.if_icmp .lt 30, 3) := dk_161 0 30 (by decide +kernel)
theorem dX12_settle_38 : decode cX12_settle 38 = .ok (.aload_n 0, 1) := dk_42 (by decide +kernel)
theorem dX12_settle_39 : decode cX12_settle 39 = .ok (.dup, 1) := dk_89 (by decide +kernel)
theorem dX12_settle_40 : decode cX12_settle 40 = .ok (.getfield 223, 3) := dk_180 0 223 (by decide +kernel)
theorem dX12_settle_43 : decode cX12_settle 43 = .ok (.iconst 1, 1) := dk_4 (by decide +kernel)
theorem dX12_settle_44 : decode cX12_settle 44 = .ok (.isub, 1) := dk_100 (by decide +kernel)
theorem dX12_settle_45 : decode cX12_settle 45 = .ok (.putfield 223, 3) := dk_181 0 223 (by decide +kernel)
theorem dX12_settle_48 : decode cX12_settle 48 = .ok (.aload_n 0, 1) := dk_42 (by decide +kernel)
theorem dX12_settle_49 : decode cX12_settle 49 = .ok (.aload_n 0, 1) := dk_42 (by decide +kernel)
theorem dX12_settle_50 : decode cX12_settle 50 = .ok (.getfield 58, 3) := dk_180 0 58 (by decide +kernel)
theorem dX12_settle_53 : decode cX12_settle 53 = .ok (.aload_n 0, 1) := dk_42 (by decide +kernel)
theorem dX12_settle_54 : decode cX12_settle 54 = .ok (.getfield 223, 3) := dk_180 0 223 (by decide +kernel)
theorem dX12_settle_57 : decode cX12_settle 57 = .ok (.iaload, 1) := dk_46 (by decide +kernel)
theorem dX12_settle_58 : decode cX12_settle 58 = .ok (.iconst 0, 1) := dk_3 (by decide +kernel)
theorem dX12_settle_59 : decode cX12_settle 59 = .ok (.invokevirtual 233, 3) := dk_182 0 233 (by decide +kernel)
theorem dX12_settle_62 : decode cX12_settle 62 = .ok (.goto (-62), 3) := dk_167 255 194 (by decide +kernel)
theorem dX12_settle_65 : decode cX12_settle 65 = .ok (.return_, 1) := dk_177 (by decide +kernel)
set_option maxRecDepth 8000 in
theorem e_X12_settle {g : ch_G} {A R : Nat} (hC : ck_Cx g A R) {d : Nat} {K : Option ck_V → ck_W → Prop} {w : ck_W} {a1 : Int} (h : ck_At (ch_C g A R) (d + 1) mX12_settle K 0 [some (.inr (.inr 76)), some (.inl a1)] [] w) : ck_Ex (ch_C g A R) (d + 1) mX12_settle [.inr (.inr 76), .inl a1] w K :=
  ck_entry hC.1 [some (.inr (.inr 76)), some (.inl a1)] (by decide) (Nat.le_of_ble_eq_true rfl) rfl (fun q => q) (ck_in (fun hl => h))
set_option maxRecDepth 8000 in
theorem r_X12_settle_0 {g : ch_G} {A R : Nat} (hC : ck_Cx g A R) {d : Nat} {K : Option ck_V → ck_W → Prop} {w : ck_W} {a1 : Int} (h : ((w 76 29) ≤ 0 → K none w) ∧ (¬ (w 76 29) ≤ 0 → (0 ≤ ((w 76 29) - 1) ∧ ((w 76 29) - 1) < 160) ∧ ((40 ≤ (w 90 ((w 76 29) - 1)) → K none w) ∧ (¬ 40 ≤ (w 90 ((w 76 29) - 1)) → ((w 90 ((w 76 29) - 1)) < a1 → K none w) ∧ (¬ (w 90 ((w 76 29) - 1)) < a1 → ck_i ((w 76 29) - 1) ∧ (ck_CN (ch_C g A R) d mX12_emit [.inr (.inr 76), .inl (w 90 ((w 76 29) - 1)), .inl 0] (ck_up w 76 29 ((w 76 29) - 1)) (fun w11 => ck_At (ch_C g A R) (d + 1) mX12_settle K 0 [some (.inr (.inr 76)), some (.inl a1)] [] w11))))))) : ck_At (ch_C g A R) (d + 1) mX12_settle K 0 [some (.inr (.inr 76)), some (.inl a1)] [] w :=
  ck_in (fun hl => (ck_aload_n 1 rfl 0 dX12_settle_0 rfl rfl (ck_geti 4 rfl 29 dX12_settle_1 fl_X12_223 sh_76 rfl rfl _ rfl (fun (q1 : ck_i (w 76 29)) => (ck_if_le 7 rfl 65 dX12_settle_4 rfl q1 (fun c17 => (ck_vret dX12_settle_65 rfl (h.1 c17))) (fun c18 => (ck_aload_n 8 rfl 0 dX12_settle_7 rfl rfl (ck_getr 11 rfl dX12_settle_8 fl_X12_58 sh_76 rfl (ck_aload_n 12 rfl 0 dX12_settle_11 rfl rfl (ck_geti 15 rfl 29 dX12_settle_12 fl_X12_223 sh_76 rfl rfl _ rfl (fun (q2 : ck_i (w 76 29)) => (ck_iconst 16 rfl dX12_settle_15 rfl (ck_isub 17 rfl dX12_settle_16 (have h20 := (h.2 c18); have o3 := h20.1; have h19 := h20.2; (ck_iald 18 rfl dX12_settle_17 sh_90 (shn_90 hC) o3 _ rfl (fun (q4 : ck_i (w 90 ((w 76 29) - 1))) => (ck_bipush 20 rfl dX12_settle_18 rfl (ck_icmp_ge 23 rfl 65 dX12_settle_20 rfl q4 (show ck_i 40 by decide) (fun c15 => (ck_vret dX12_settle_65 rfl (h19.1 c15))) (fun c16 => (ck_aload_n 24 rfl 0 dX12_settle_23 rfl rfl (ck_getr 27 rfl dX12_settle_24 fl_X12_58 sh_76 rfl (ck_aload_n 28 rfl 0 dX12_settle_27 rfl rfl (ck_geti 31 rfl 29 dX12_settle_28 fl_X12_223 sh_76 rfl rfl _ rfl (fun (q5 : ck_i (w 76 29)) => (ck_iconst 32 rfl dX12_settle_31 rfl (ck_isub 33 rfl dX12_settle_32 (ck_iald 34 rfl dX12_settle_33 sh_90 (shn_90 hC) o3 _ rfl (fun (q6 : ck_i (w 90 ((w 76 29) - 1))) => (ck_iload_n 35 rfl 1 dX12_settle_34 rfl rfl (have h21 := (h19.2 c16); (ck_icmp_lt 38 rfl 65 dX12_settle_35 rfl q6 hl.2.1 (fun c13 => (ck_vret dX12_settle_65 rfl (h21.1 c13))) (fun c14 => (ck_aload_n 39 rfl 0 dX12_settle_38 rfl rfl (ck_dup 40 rfl dX12_settle_39 rfl (ck_geti 43 rfl 29 dX12_settle_40 fl_X12_223 sh_76 rfl rfl _ rfl (fun (q7 : ck_i (w 76 29)) => (ck_iconst 44 rfl dX12_settle_43 rfl (ck_isub 45 rfl dX12_settle_44 (have h23 := (h21.2 c14); have o8 := h23.1; have h22 := h23.2; (ck_puti 48 rfl 29 dX12_settle_45 fp_X12_223 sh_76 rfl rfl o8 (ck_aload_n 49 rfl 0 dX12_settle_48 rfl rfl (ck_aload_n 50 rfl 0 dX12_settle_49 rfl rfl (ck_getr 53 rfl dX12_settle_50 fl_X12_58 sh_76 rfl (ck_aload_n 54 rfl 0 dX12_settle_53 rfl rfl (ck_geti 57 rfl 29 dX12_settle_54 fl_X12_223 sh_76 rfl rfl _ rfl (fun (q9 : ck_i ((w 76 29) - 1)) => (ck_iald 58 rfl dX12_settle_57 sh_90 (shn_90 hC) o3 _ rfl (fun (q10 : ck_i (w 90 ((w 76 29) - 1))) => (ck_iconst 59 rfl dX12_settle_58 rfl (ck_callV 62 rfl [.inl (w 90 ((w 76 29) - 1)), .inl 0] [] dX12_settle_59 cv_X12_233 sh_76 rfl rfl (Nat.le_of_ble_eq_true rfl) (And.intro q10 (And.intro (show ck_i 0 by decide) True.intro)) (ck_mN h22 (fun w11 h12 => (ck_goto 0 dX12_settle_62 rfl h12)))))))))))))))))))))))))))))))))))))))))))))))))))))
theorem L_X12_settle {g : ch_G} {A R : Nat} (hC : ck_Cx g A R) {d : Nat} {K : Option ck_V → ck_W → Prop} {w : ck_W} {T X s E N n m a1 : Int} (hT : 0 ≤ T ∧ T ≤ 300) (hX : 0 ≤ X ∧ X ≤ 2400) (hE : 0 ≤ E) (hN : 0 ≤ N) (hn : 0 ≤ n) (h1 : 3 ≤ a1 ∧ a1 ≤ 6) (q : Nat) (hq : w 76 29 ≤ q) (hz : pz T X s E N n m w) (h31 : w 76 31 = 1)
    (h : ∀ w', pr w w' → (∀ j, j ≠ 26 → j ≠ 29 → w' 76 j = w 76 j) → w' 90 = w 90 → w' 76 29 ≤ w 76 29 → (∀ k, 0 ≤ k → k < w 76 29 → w 90 k = 40 → k < w' 76 29) → (w' 76 29 ≤ 0 ∨ 40 ≤ w 90 (w' 76 29 - 1) ∨ w 90 (w' 76 29 - 1) < a1) → pz T X s E N n m w' → K none w') : ck_At (ch_C g A R) (d + 1) mX12_settle K 0 [some (.inr (.inr 76)), some (.inl a1)] [] w := by
  induction q generalizing w with
  | zero => exact r_X12_settle_0 hC ⟨fun z => h w pr_rf (fun _ _ _ => rfl) rfl (Int.le_refl _) (fun _ _ a _ => a) (Or.inl z) hz, fun z => absurd (by omega) z⟩
  | succ q ih =>
    obtain ⟨h1', h2, h3, h4, h5, h6, h7, h8, h9, h10, h11⟩ := id hz
    have pb := pz_piled hz hN
    refine r_X12_settle_0 hC ⟨fun z => h w pr_rf (fun _ _ _ => rfl) rfl (Int.le_refl _) (fun _ _ a _ => a) (Or.inl z) hz, fun z => ⟨by omega, fun y => h w pr_rf (fun _ _ _ => rfl) rfl (Int.le_refl _) (fun _ _ a _ => a) (Or.inr (Or.inl y)) hz, fun y => ⟨fun y2 => h w pr_rf (fun _ _ _ => rfl) rfl (Int.le_refl _) (fun _ _ a _ => a) (Or.inr (Or.inr y2)) hz, fun y2 => ⟨by constructor <;> omega, ?_⟩⟩⟩⟩
    have p1 : pr w (ck_up w 76 29 (w 76 29 - 1)) := pr_up (by omega) (by omega) (by omega)
    have f24 : (ck_up w 76 29 (w 76 29 - 1)) 76 24 = w 76 24 := by rw [ck_up_nj (by decide)]
    have f26 : (ck_up w 76 29 (w 76 29 - 1)) 76 26 = w 76 26 := by rw [ck_up_nj (by decide)]
    refine S_X12_emit hC (by rw [f24]; omega) (by rw [f26]; omega) (fun u b1 b2 b3 b4 b5 => ⟨rfl, ?_⟩)
    rw [f24, f26] at b5
    rw [f26] at b4
    have g : ∀ j, j ≠ 26 → j ≠ 29 → u 76 j = w 76 j := fun j x y => by rw [b3 j x, ck_up_nj y]
    have g29 : u 76 29 = w 76 29 - 1 := by rw [b3 29 (by decide), ck_up_eq]
    have g90 : u 90 = w 90 := by rw [b2 90 (by decide) (by decide)]; rfl
    have b5' : u 79 = rm_u (rm_u (w 79) (w 76 24 + 50 + 2 * w 76 26) (w 90 (w 76 29 - 1))) (w 76 24 + 50 + 2 * w 76 26 + 1) 0 := b5
    have e1 : (w 76 29).toNat = (w 76 29 - 1).toNat + 1 := by omega
    have k1 : (((w 76 29 - 1).toNat : Nat) : Int) = w 76 29 - 1 := by omega
    have ty := h8.1 (w 76 29 - 1).toNat (by omega)
    rw [k1] at ty
    have opn : pl_op (w 90) (w 76 29).toNat = pl_op (w 90) (w 76 29 - 1).toNat := by rw [e1, pl_op, k1, if_neg (by omega)]; omega
    have bin : pl_b (w 90) (w 76 29).toNat = pl_b (w 90) (w 76 29 - 1).toNat + 1 := by rw [e1, pl_b, k1, if_pos (by omega)]
    refine ih (w := u) (by omega) ⟨?_, ?_, ?_, ?_, ?_, ?_, ?_, ?_, ?_, ?_, ?_⟩ (by rw [g 31 (by decide) (by decide)]; exact h31) (fun w' c1 c2 c3 c4 c5 c6 c7 => h w' (pr_tr (pr_tr p1 b1) c1) (fun j x y => by rw [c2 j x y, g j x y]) (by rw [c3, g90]) (by omega) (fun k k0 k2 k3 => c5 k k0 (by
        by_cases x : k = w 76 29 - 1
        · subst x; omega
        · omega) (by rw [g90]; exact k3)) (by rw [g90] at c6; exact c6) c7)
    · rw [g 19 (by decide) (by decide), g 20 (by decide) (by decide)]; exact h1'
    · rw [g 19 (by decide) (by decide), g 20 (by decide) (by decide), g 21 (by decide) (by decide)]; exact h2
    · rw [g 22 (by decide) (by decide)]; exact h3
    · rw [g 16 (by decide) (by decide), g 24 (by decide) (by decide)]; exact h4
    · rw [b4]; omega
    · omega
    · rw [b4, g29, g 20 (by decide) (by decide)]; omega
    · rw [g90, g29]; rw [e1] at h8; exact pl_ok_pop h8
    · rw [g90, g29, g 30 (by decide) (by decide)]; omega
    · rw [g 31 (by decide) (by decide)]; exact h10
    · have te := tx_emit (t := w 79) (c := X + 50) (s := s) (wr := w 76 26) (o := w 90 (w 76 29 - 1)) (v := 0) h5.2
      rw [b5', b4, h4.2, g90, g29, g 31 (by decide) (by decide), te, h11, bin]
      show tx_eff (w 90 (w 76 29 - 1)) 0 (n + (pl_b (w 90) (w 76 29 - 1).toNat + 1) + w 76 31, m) = _
      have b0 := pl_b0 (w 90) (w 76 29 - 1).toNat
      unfold tx_eff
      rw [if_neg (by omega), if_neg (by omega), if_neg (by omega), if_pos (by omega), if_pos (by dsimp only; omega)]
      dsimp only
      rw [show n + (pl_b (w 90) (w 76 29 - 1).toNat + 1) + w 76 31 - 1 = n + pl_b (w 90) (w 76 29 - 1).toNat + w 76 31 by omega]
