/-! ===== printed by gen/ctor.py: constructors without loops ===== -/
theorem wc_oc : Cond.code objectInit ⟨#[0xb1]⟩ 1 none ∈ ch_T := ch_mem (ch_t1 30 rfl) rfl
theorem wc_oi : Cond.instanceMethod objectInit ∈ ch_T := ch_mem (ch_t1 29 rfl) rfl
theorem wc_aint : Cond.arrayClass .int ∈ ch_T := ch_mem (ch_t1 59 rfl) rfl
theorem wc_along : Cond.arrayClass .long ∈ ch_T := ch_mem (ch_t2 214 rfl) rfl
theorem wc_aboolean : Cond.arrayClass .boolean ∈ ch_T := ch_mem (ch_t2 72 rfl) rfl
theorem cn_FQof {own : String} {index ci j N : Nat} {C : String} {T : u_T} {ty : FieldType} {fin : Bool} (h : ch_FL own index ci j) (hc : vwCl[ci]? = some (C, T, N)) (hfin : (T j).2.2.2 = fin) (hdecl : (T j).1 = own) (hdd : parseFieldDescriptor (T j).2.2.1 = some ty) (hty : ∃ ty0 : Nat → FieldType, ∀ k, k < N → parseFieldDescriptor (T k).2.2.1 = some (ty0 k)) (hnm : ∀ a, a < N → ∀ b, b < N → a ≠ b → (T a).2.1 ≠ (T b).2.1) : cn_FQ own index ci j ty fin := by
  obtain ⟨C1, T1, N1, h1, h2, h3, h4⟩ := h
  rw [hc] at h1
  cases h1
  exact ⟨C, T, N, hc, h2, h3, h4, hfin, hdecl, hdd, hty, hnm⟩
theorem fq_X0_9 : cn_FQ RX0 9 0 4 (tyX0 4) true := cn_FQof fl_X0_9 rfl rfl rfl (tyX0_ok 4 (by decide)) ⟨tyX0, tyX0_ok⟩ nmX0
theorem fq_X0_15 : cn_FQ RX0 15 0 5 (tyX0 5) true := cn_FQof fl_X0_15 rfl rfl rfl (tyX0_ok 5 (by decide)) ⟨tyX0, tyX0_ok⟩ nmX0
theorem fq_X0_19 : cn_FQ RX0 19 0 7 (tyX0 7) false := cn_FQof fl_X0_19 rfl rfl rfl (tyX0_ok 7 (by decide)) ⟨tyX0, tyX0_ok⟩ nmX0
theorem fq_X0_23 : cn_FQ RX0 23 0 8 (tyX0 8) true := cn_FQof fl_X0_23 rfl rfl rfl (tyX0_ok 8 (by decide)) ⟨tyX0, tyX0_ok⟩ nmX0
theorem fq_X0_32 : cn_FQ RX0 32 0 0 (tyX0 0) true := cn_FQof fl_X0_32 rfl rfl rfl (tyX0_ok 0 (by decide)) ⟨tyX0, tyX0_ok⟩ nmX0
theorem fq_X0_37 : cn_FQ RX0 37 0 1 (tyX0 1) true := cn_FQof fl_X0_37 rfl rfl rfl (tyX0_ok 1 (by decide)) ⟨tyX0, tyX0_ok⟩ nmX0
theorem fq_X0_42 : cn_FQ RX0 42 0 2 (tyX0 2) true := cn_FQof fl_X0_42 rfl rfl rfl (tyX0_ok 2 (by decide)) ⟨tyX0, tyX0_ok⟩ nmX0
theorem fq_X0_43 : cn_FQ RX0 43 0 3 (tyX0 3) true := cn_FQof fl_X0_43 rfl rfl rfl (tyX0_ok 3 (by decide)) ⟨tyX0, tyX0_ok⟩ nmX0
theorem fq_X4_9 : cn_FQ RX4 9 4 0 (tyX4 0) true := cn_FQof fl_X4_9 rfl rfl rfl (tyX4_ok 0 (by decide)) ⟨tyX4, tyX4_ok⟩ nmX4
theorem fq_X4_15 : cn_FQ RX4 15 4 1 (tyX4 1) true := cn_FQof fl_X4_15 rfl rfl rfl (tyX4_ok 1 (by decide)) ⟨tyX4, tyX4_ok⟩ nmX4
theorem fq_X4_18 : cn_FQ RX4 18 4 2 (tyX4 2) true := cn_FQof fl_X4_18 rfl rfl rfl (tyX4_ok 2 (by decide)) ⟨tyX4, tyX4_ok⟩ nmX4
theorem fq_X4_21 : cn_FQ RX4 21 4 4 (tyX4 4) true := cn_FQof fl_X4_21 rfl rfl rfl (tyX4_ok 4 (by decide)) ⟨tyX4, tyX4_ok⟩ nmX4
theorem fq_X5_9 : cn_FQ RX5 9 5 4 (tyX5 4) true := cn_FQof fl_X5_9 rfl rfl rfl (tyX5_ok 4 (by decide)) ⟨tyX5, tyX5_ok⟩ nmX5
theorem fq_X5_15 : cn_FQ RX5 15 5 5 (tyX5 5) true := cn_FQof fl_X5_15 rfl rfl rfl (tyX5_ok 5 (by decide)) ⟨tyX5, tyX5_ok⟩ nmX5
theorem fq_X5_27 : cn_FQ RX5 27 5 0 (tyX5 0) true := cn_FQof fl_X5_27 rfl rfl rfl (tyX5_ok 0 (by decide)) ⟨tyX5, tyX5_ok⟩ nmX5
theorem fq_X5_31 : cn_FQ RX5 31 5 1 (tyX5 1) true := cn_FQof fl_X5_31 rfl rfl rfl (tyX5_ok 1 (by decide)) ⟨tyX5, tyX5_ok⟩ nmX5
theorem fq_X5_34 : cn_FQ RX5 34 5 2 (tyX5 2) true := cn_FQof fl_X5_34 rfl rfl rfl (tyX5_ok 2 (by decide)) ⟨tyX5, tyX5_ok⟩ nmX5
theorem fq_X5_37 : cn_FQ RX5 37 5 3 (tyX5 3) true := cn_FQof fl_X5_37 rfl rfl rfl (tyX5_ok 3 (by decide)) ⟨tyX5, tyX5_ok⟩ nmX5
theorem fq_X8_10 : cn_FQ RX8 10 8 1 (tyX8 1) true := cn_FQof fl_X8_10 rfl rfl rfl (tyX8_ok 1 (by decide)) ⟨tyX8, tyX8_ok⟩ nmX8
theorem fq_X8_19 : cn_FQ RX8 19 8 2 (tyX8 2) true := cn_FQof fl_X8_19 rfl rfl rfl (tyX8_ok 2 (by decide)) ⟨tyX8, tyX8_ok⟩ nmX8
theorem fq_X8_26 : cn_FQ RX8 26 8 3 (tyX8 3) true := cn_FQof fl_X8_26 rfl rfl rfl (tyX8_ok 3 (by decide)) ⟨tyX8, tyX8_ok⟩ nmX8
theorem fq_X8_33 : cn_FQ RX8 33 8 4 (tyX8 4) true := cn_FQof fl_X8_33 rfl rfl rfl (tyX8_ok 4 (by decide)) ⟨tyX8, tyX8_ok⟩ nmX8
theorem fq_X8_42 : cn_FQ RX8 42 8 0 (tyX8 0) true := cn_FQof fl_X8_42 rfl rfl rfl (tyX8_ok 0 (by decide)) ⟨tyX8, tyX8_ok⟩ nmX8
theorem fq_X10_11 : cn_FQ RX10 11 10 12 (tyX10 12) true := cn_FQof fl_X10_11 rfl rfl rfl (tyX10_ok 12 (by decide)) ⟨tyX10, tyX10_ok⟩ nmX10
theorem fq_X10_15 : cn_FQ RX10 15 10 13 (tyX10 13) true := cn_FQof fl_X10_15 rfl rfl rfl (tyX10_ok 13 (by decide)) ⟨tyX10, tyX10_ok⟩ nmX10
theorem fq_X10_19 : cn_FQ RX10 19 10 14 (tyX10 14) true := cn_FQof fl_X10_19 rfl rfl rfl (tyX10_ok 14 (by decide)) ⟨tyX10, tyX10_ok⟩ nmX10
theorem fq_X10_22 : cn_FQ RX10 22 10 15 (tyX10 15) true := cn_FQof fl_X10_22 rfl rfl rfl (tyX10_ok 15 (by decide)) ⟨tyX10, tyX10_ok⟩ nmX10
theorem fq_X10_25 : cn_FQ RX10 25 10 16 (tyX10 16) true := cn_FQof fl_X10_25 rfl rfl rfl (tyX10_ok 16 (by decide)) ⟨tyX10, tyX10_ok⟩ nmX10
theorem fq_X10_28 : cn_FQ RX10 28 10 0 (tyX10 0) true := cn_FQof fl_X10_28 rfl rfl rfl (tyX10_ok 0 (by decide)) ⟨tyX10, tyX10_ok⟩ nmX10
theorem fq_X10_48 : cn_FQ RX10 48 10 1 (tyX10 1) true := cn_FQof fl_X10_48 rfl rfl rfl (tyX10_ok 1 (by decide)) ⟨tyX10, tyX10_ok⟩ nmX10
theorem fq_X10_51 : cn_FQ RX10 51 10 2 (tyX10 2) true := cn_FQof fl_X10_51 rfl rfl rfl (tyX10_ok 2 (by decide)) ⟨tyX10, tyX10_ok⟩ nmX10
theorem fq_X10_54 : cn_FQ RX10 54 10 4 (tyX10 4) true := cn_FQof fl_X10_54 rfl rfl rfl (tyX10_ok 4 (by decide)) ⟨tyX10, tyX10_ok⟩ nmX10
theorem fq_X10_57 : cn_FQ RX10 57 10 5 (tyX10 5) true := cn_FQof fl_X10_57 rfl rfl rfl (tyX10_ok 5 (by decide)) ⟨tyX10, tyX10_ok⟩ nmX10
theorem fq_X10_60 : cn_FQ RX10 60 10 3 (tyX10 3) true := cn_FQof fl_X10_60 rfl rfl rfl (tyX10_ok 3 (by decide)) ⟨tyX10, tyX10_ok⟩ nmX10
theorem fq_X10_63 : cn_FQ RX10 63 10 6 (tyX10 6) true := cn_FQof fl_X10_63 rfl rfl rfl (tyX10_ok 6 (by decide)) ⟨tyX10, tyX10_ok⟩ nmX10
theorem fq_X10_69 : cn_FQ RX10 69 10 9 (tyX10 9) true := cn_FQof fl_X10_69 rfl rfl rfl (tyX10_ok 9 (by decide)) ⟨tyX10, tyX10_ok⟩ nmX10
theorem fq_X10_72 : cn_FQ RX10 72 10 8 (tyX10 8) true := cn_FQof fl_X10_72 rfl rfl rfl (tyX10_ok 8 (by decide)) ⟨tyX10, tyX10_ok⟩ nmX10
theorem fq_X11_14 : cn_FQ RX11 14 11 0 (tyX11 0) true := cn_FQof fl_X11_14 rfl rfl rfl (tyX11_ok 0 (by decide)) ⟨tyX11, tyX11_ok⟩ nmX11
theorem fq_X11_18 : cn_FQ RX11 18 11 1 (tyX11 1) true := cn_FQof fl_X11_18 rfl rfl rfl (tyX11_ok 1 (by decide)) ⟨tyX11, tyX11_ok⟩ nmX11
theorem fq_X11_30 : cn_FQ RX11 30 11 2 (tyX11 2) true := cn_FQof fl_X11_30 rfl rfl rfl (tyX11_ok 2 (by decide)) ⟨tyX11, tyX11_ok⟩ nmX11
theorem fq_X11_43 : cn_FQ RX11 43 11 3 (tyX11 3) true := cn_FQof fl_X11_43 rfl rfl rfl (tyX11_ok 3 (by decide)) ⟨tyX11, tyX11_ok⟩ nmX11
theorem fq_X11_50 : cn_FQ RX11 50 11 4 (tyX11 4) true := cn_FQof fl_X11_50 rfl rfl rfl (tyX11_ok 4 (by decide)) ⟨tyX11, tyX11_ok⟩ nmX11
theorem fq_X11_63 : cn_FQ RX11 63 11 5 (tyX11 5) true := cn_FQof fl_X11_63 rfl rfl rfl (tyX11_ok 5 (by decide)) ⟨tyX11, tyX11_ok⟩ nmX11
theorem fq_X11_72 : cn_FQ RX11 72 11 6 (tyX11 6) true := cn_FQof fl_X11_72 rfl rfl rfl (tyX11_ok 6 (by decide)) ⟨tyX11, tyX11_ok⟩ nmX11
theorem fq_X12_7 : cn_FQ RX12 7 12 3 (tyX12 3) true := cn_FQof fl_X12_7 rfl rfl rfl (tyX12_ok 3 (by decide)) ⟨tyX12, tyX12_ok⟩ nmX12
theorem fq_X12_13 : cn_FQ RX12 13 12 4 (tyX12 4) true := cn_FQof fl_X12_13 rfl rfl rfl (tyX12_ok 4 (by decide)) ⟨tyX12, tyX12_ok⟩ nmX12
theorem fq_X12_16 : cn_FQ RX12 16 12 5 (tyX12 5) true := cn_FQof fl_X12_16 rfl rfl rfl (tyX12_ok 5 (by decide)) ⟨tyX12, tyX12_ok⟩ nmX12
theorem fq_X12_20 : cn_FQ RX12 20 12 6 (tyX12 6) true := cn_FQof fl_X12_20 rfl rfl rfl (tyX12_ok 6 (by decide)) ⟨tyX12, tyX12_ok⟩ nmX12
theorem fq_X12_23 : cn_FQ RX12 23 12 7 (tyX12 7) true := cn_FQof fl_X12_23 rfl rfl rfl (tyX12_ok 7 (by decide)) ⟨tyX12, tyX12_ok⟩ nmX12
theorem fq_X12_26 : cn_FQ RX12 26 12 8 (tyX12 8) true := cn_FQof fl_X12_26 rfl rfl rfl (tyX12_ok 8 (by decide)) ⟨tyX12, tyX12_ok⟩ nmX12
theorem fq_X12_30 : cn_FQ RX12 30 12 9 (tyX12 9) true := cn_FQof fl_X12_30 rfl rfl rfl (tyX12_ok 9 (by decide)) ⟨tyX12, tyX12_ok⟩ nmX12
theorem fq_X12_33 : cn_FQ RX12 33 12 10 (tyX12 10) true := cn_FQof fl_X12_33 rfl rfl rfl (tyX12_ok 10 (by decide)) ⟨tyX12, tyX12_ok⟩ nmX12
theorem fq_X12_36 : cn_FQ RX12 36 12 11 (tyX12 11) true := cn_FQof fl_X12_36 rfl rfl rfl (tyX12_ok 11 (by decide)) ⟨tyX12, tyX12_ok⟩ nmX12
theorem fq_X12_39 : cn_FQ RX12 39 12 12 (tyX12 12) true := cn_FQof fl_X12_39 rfl rfl rfl (tyX12_ok 12 (by decide)) ⟨tyX12, tyX12_ok⟩ nmX12
theorem fq_X12_42 : cn_FQ RX12 42 12 13 (tyX12 13) true := cn_FQof fl_X12_42 rfl rfl rfl (tyX12_ok 13 (by decide)) ⟨tyX12, tyX12_ok⟩ nmX12
theorem fq_X12_45 : cn_FQ RX12 45 12 14 (tyX12 14) true := cn_FQof fl_X12_45 rfl rfl rfl (tyX12_ok 14 (by decide)) ⟨tyX12, tyX12_ok⟩ nmX12
theorem fq_X12_48 : cn_FQ RX12 48 12 15 (tyX12 15) true := cn_FQof fl_X12_48 rfl rfl rfl (tyX12_ok 15 (by decide)) ⟨tyX12, tyX12_ok⟩ nmX12
theorem fq_X12_51 : cn_FQ RX12 51 12 17 (tyX12 17) false := cn_FQof fl_X12_51 rfl rfl rfl (tyX12_ok 17 (by decide)) ⟨tyX12, tyX12_ok⟩ nmX12
theorem fq_X12_55 : cn_FQ RX12 55 12 18 (tyX12 18) false := cn_FQof fl_X12_55 rfl rfl rfl (tyX12_ok 18 (by decide)) ⟨tyX12, tyX12_ok⟩ nmX12
theorem fq_X12_58 : cn_FQ RX12 58 12 28 (tyX12 28) true := cn_FQof fl_X12_58 rfl rfl rfl (tyX12_ok 28 (by decide)) ⟨tyX12, tyX12_ok⟩ nmX12
theorem fq_X12_61 : cn_FQ RX12 61 12 32 (tyX12 32) true := cn_FQof fl_X12_61 rfl rfl rfl (tyX12_ok 32 (by decide)) ⟨tyX12, tyX12_ok⟩ nmX12
theorem fq_X12_64 : cn_FQ RX12 64 12 33 (tyX12 33) true := cn_FQof fl_X12_64 rfl rfl rfl (tyX12_ok 33 (by decide)) ⟨tyX12, tyX12_ok⟩ nmX12
theorem fq_X12_68 : cn_FQ RX12 68 12 34 (tyX12 34) true := cn_FQof fl_X12_68 rfl rfl rfl (tyX12_ok 34 (by decide)) ⟨tyX12, tyX12_ok⟩ nmX12
theorem fq_X12_71 : cn_FQ RX12 71 12 35 (tyX12 35) true := cn_FQof fl_X12_71 rfl rfl rfl (tyX12_ok 35 (by decide)) ⟨tyX12, tyX12_ok⟩ nmX12
theorem fq_X12_74 : cn_FQ RX12 74 12 36 (tyX12 36) true := cn_FQof fl_X12_74 rfl rfl rfl (tyX12_ok 36 (by decide)) ⟨tyX12, tyX12_ok⟩ nmX12
theorem fq_X12_77 : cn_FQ RX12 77 12 37 (tyX12 37) true := cn_FQof fl_X12_77 rfl rfl rfl (tyX12_ok 37 (by decide)) ⟨tyX12, tyX12_ok⟩ nmX12
theorem fq_X12_80 : cn_FQ RX12 80 12 0 (tyX12 0) true := cn_FQof fl_X12_80 rfl rfl rfl (tyX12_ok 0 (by decide)) ⟨tyX12, tyX12_ok⟩ nmX12
theorem fq_X12_83 : cn_FQ RX12 83 12 1 (tyX12 1) true := cn_FQof fl_X12_83 rfl rfl rfl (tyX12_ok 1 (by decide)) ⟨tyX12, tyX12_ok⟩ nmX12
theorem fq_X12_86 : cn_FQ RX12 86 12 2 (tyX12 2) true := cn_FQof fl_X12_86 rfl rfl rfl (tyX12_ok 2 (by decide)) ⟨tyX12, tyX12_ok⟩ nmX12
theorem fq_X9_9 : cn_FQ RX9 9 9 0 (tyX9 0) true := cn_FQof fl_X9_9 rfl rfl rfl (tyX9_ok 0 (by decide)) ⟨tyX9, tyX9_ok⟩ nmX9
theorem fq_X9_15 : cn_FQ RX9 15 9 2 (tyX9 2) false := cn_FQof fl_X9_15 rfl rfl rfl (tyX9_ok 2 (by decide)) ⟨tyX9, tyX9_ok⟩ nmX9
theorem n_X9 {X : ch_X} {d : Nat} (b : Nat) : cn_Ex X (d + 1) 1 30 mX9_init [.ref b] [(b, .inr (9, [.null, .int 0, .int 0]))] (fun ws' => ∃ q1, ws' = [(b, .inr (9, [.ref q1, .int 0, .int 5])), (q1, .inl (X.2.2.1 .int, 30, .inl (fun _ => 0)))]) := by
  refine cn_entry [(0, .ref b)] (by decide) (Nat.le_of_ble_eq_true rfl) rfl ?_
  refine cn_aload_n 0 0 (ch_at tX9_init 0 rfl) rfl rfl ?_
  refine cn_objInit (ch_at tX9_init 1 rfl) (ch_mem (ch_t1 42 rfl) rfl) wc_oi wc_oc (by omega) ?_
  refine cn_aload_n 0 0 (ch_at tX9_init 2 rfl) rfl rfl ?_
  refine cn_bipush (30) (ch_at tX9_init 3 rfl) rfl ?_
  refine cn_newI 30 (ws' := fun q1 => [(b, .inr (9, [.null, .int 0, .int 0])), (q1, .inl (X.2.2.1 .int, 30, .inl (fun _ => 0)))]) (ch_at tX9_init 4 rfl) wc_aint (by decide) (by decide) (by decide) (by decide) (by decide) (fun _ => rfl) (fun q1 => ?_)
  refine cn_putF (ws' := [(b, .inr (9, [.ref q1, .int 0, .int 0])), (q1, .inl (X.2.2.1 .int, 30, .inl (fun _ => 0)))]) 0 (ch_at tX9_init 5 rfl) fq_X9_9 rfl rfl rfl rfl (Nat.le_of_ble_eq_true rfl) rfl ?_
  refine cn_aload_n 0 0 (ch_at tX9_init 6 rfl) rfl rfl ?_
  refine cn_iconst (5) (ch_at tX9_init 7 rfl) rfl ?_
  refine cn_put (ws' := [(b, .inr (9, [.ref q1, .int 0, .int 5])), (q1, .inl (X.2.2.1 .int, 30, .inl (fun _ => 0)))]) 0 (ch_at tX9_init 8 rfl) fq_X9_15 rfl rfl rfl (Nat.le_of_ble_eq_true rfl) rfl ?_
  exact cn_ret (ch_at tX9_init 9 rfl) rfl (by decide) (by decide) ⟨q1, rfl⟩
theorem fq_X2_9 : cn_FQ RX2 9 2 0 (tyX2 0) true := cn_FQof fl_X2_9 rfl rfl rfl (tyX2_ok 0 (by decide)) ⟨tyX2, tyX2_ok⟩ nmX2
theorem fq_X2_15 : cn_FQ RX2 15 2 1 (tyX2 1) true := cn_FQof fl_X2_15 rfl rfl rfl (tyX2_ok 1 (by decide)) ⟨tyX2, tyX2_ok⟩ nmX2
theorem fq_X2_18 : cn_FQ RX2 18 2 3 (tyX2 3) true := cn_FQof fl_X2_18 rfl rfl rfl (tyX2_ok 3 (by decide)) ⟨tyX2, tyX2_ok⟩ nmX2
theorem fq_X2_21 : cn_FQ RX2 21 2 4 (tyX2 4) true := cn_FQof fl_X2_21 rfl rfl rfl (tyX2_ok 4 (by decide)) ⟨tyX2, tyX2_ok⟩ nmX2
theorem fq_X2_24 : cn_FQ RX2 24 2 6 (tyX2 6) false := cn_FQof fl_X2_24 rfl rfl rfl (tyX2_ok 6 (by decide)) ⟨tyX2, tyX2_ok⟩ nmX2
theorem fq_X2_28 : cn_FQ RX2 28 2 7 (tyX2 7) false := cn_FQof fl_X2_28 rfl rfl rfl (tyX2_ok 7 (by decide)) ⟨tyX2, tyX2_ok⟩ nmX2
theorem n_X2 {X : ch_X} {d : Nat} (b : Nat) : cn_Ex X (d + 1) 4 72 mX2_init [.ref b] [(b, .inr (2, [.null, .null, .int 0, .null, .null, .int 0, .int 0, .int 0]))] (fun ws' => ∃ q1 q2 q3 q4, ws' = [(b, .inr (2, [.ref q1, .ref q2, .int 0, .ref q3, .ref q4, .int 0, .int 3, .int 1])), (q1, .inl (X.2.2.1 .int, 12, .inl (fun _ => 0))), (q2, .inl (X.2.2.1 .int, 12, .inl (fun _ => 0))), (q3, .inl (X.2.2.1 .int, 36, .inl (fun _ => 0))), (q4, .inl (X.2.2.1 .int, 12, .inl (fun _ => 0)))]) := by
  refine cn_entry [(0, .ref b)] (by decide) (Nat.le_of_ble_eq_true rfl) rfl ?_
  refine cn_aload_n 0 0 (ch_at tX2_init 0 rfl) rfl rfl ?_
  refine cn_objInit (ch_at tX2_init 1 rfl) (ch_mem (ch_t1 101 rfl) rfl) wc_oi wc_oc (by omega) ?_
  refine cn_aload_n 0 0 (ch_at tX2_init 2 rfl) rfl rfl ?_
  refine cn_bipush (12) (ch_at tX2_init 3 rfl) rfl ?_
  refine cn_newI 12 (ws' := fun q1 => [(b, .inr (2, [.null, .null, .int 0, .null, .null, .int 0, .int 0, .int 0])), (q1, .inl (X.2.2.1 .int, 12, .inl (fun _ => 0)))]) (ch_at tX2_init 4 rfl) wc_aint (by decide) (by decide) (by decide) (by decide) (by decide) (fun _ => rfl) (fun q1 => ?_)
  refine cn_putF (ws' := [(b, .inr (2, [.ref q1, .null, .int 0, .null, .null, .int 0, .int 0, .int 0])), (q1, .inl (X.2.2.1 .int, 12, .inl (fun _ => 0)))]) 0 (ch_at tX2_init 5 rfl) fq_X2_9 rfl rfl rfl rfl (Nat.le_of_ble_eq_true rfl) rfl ?_
  refine cn_aload_n 0 0 (ch_at tX2_init 6 rfl) rfl rfl ?_
  refine cn_bipush (12) (ch_at tX2_init 7 rfl) rfl ?_
  refine cn_newI 12 (ws' := fun q2 => [(b, .inr (2, [.ref q1, .null, .int 0, .null, .null, .int 0, .int 0, .int 0])), (q1, .inl (X.2.2.1 .int, 12, .inl (fun _ => 0))), (q2, .inl (X.2.2.1 .int, 12, .inl (fun _ => 0)))]) (ch_at tX2_init 8 rfl) wc_aint (by decide) (by decide) (by decide) (by decide) (by decide) (fun _ => rfl) (fun q2 => ?_)
  refine cn_putF (ws' := [(b, .inr (2, [.ref q1, .ref q2, .int 0, .null, .null, .int 0, .int 0, .int 0])), (q1, .inl (X.2.2.1 .int, 12, .inl (fun _ => 0))), (q2, .inl (X.2.2.1 .int, 12, .inl (fun _ => 0)))]) 0 (ch_at tX2_init 9 rfl) fq_X2_15 rfl rfl rfl rfl (Nat.le_of_ble_eq_true rfl) rfl ?_
  refine cn_aload_n 0 0 (ch_at tX2_init 10 rfl) rfl rfl ?_
  refine cn_bipush (36) (ch_at tX2_init 11 rfl) rfl ?_
  refine cn_newI 36 (ws' := fun q3 => [(b, .inr (2, [.ref q1, .ref q2, .int 0, .null, .null, .int 0, .int 0, .int 0])), (q1, .inl (X.2.2.1 .int, 12, .inl (fun _ => 0))), (q2, .inl (X.2.2.1 .int, 12, .inl (fun _ => 0))), (q3, .inl (X.2.2.1 .int, 36, .inl (fun _ => 0)))]) (ch_at tX2_init 12 rfl) wc_aint (by decide) (by decide) (by decide) (by decide) (by decide) (fun _ => rfl) (fun q3 => ?_)
  refine cn_putF (ws' := [(b, .inr (2, [.ref q1, .ref q2, .int 0, .ref q3, .null, .int 0, .int 0, .int 0])), (q1, .inl (X.2.2.1 .int, 12, .inl (fun _ => 0))), (q2, .inl (X.2.2.1 .int, 12, .inl (fun _ => 0))), (q3, .inl (X.2.2.1 .int, 36, .inl (fun _ => 0)))]) 0 (ch_at tX2_init 13 rfl) fq_X2_18 rfl rfl rfl rfl (Nat.le_of_ble_eq_true rfl) rfl ?_
  refine cn_aload_n 0 0 (ch_at tX2_init 14 rfl) rfl rfl ?_
  refine cn_bipush (12) (ch_at tX2_init 15 rfl) rfl ?_
  refine cn_newI 12 (ws' := fun q4 => [(b, .inr (2, [.ref q1, .ref q2, .int 0, .ref q3, .null, .int 0, .int 0, .int 0])), (q1, .inl (X.2.2.1 .int, 12, .inl (fun _ => 0))), (q2, .inl (X.2.2.1 .int, 12, .inl (fun _ => 0))), (q3, .inl (X.2.2.1 .int, 36, .inl (fun _ => 0))), (q4, .inl (X.2.2.1 .int, 12, .inl (fun _ => 0)))]) (ch_at tX2_init 16 rfl) wc_aint (by decide) (by decide) (by decide) (by decide) (by decide) (fun _ => rfl) (fun q4 => ?_)
  refine cn_putF (ws' := [(b, .inr (2, [.ref q1, .ref q2, .int 0, .ref q3, .ref q4, .int 0, .int 0, .int 0])), (q1, .inl (X.2.2.1 .int, 12, .inl (fun _ => 0))), (q2, .inl (X.2.2.1 .int, 12, .inl (fun _ => 0))), (q3, .inl (X.2.2.1 .int, 36, .inl (fun _ => 0))), (q4, .inl (X.2.2.1 .int, 12, .inl (fun _ => 0)))]) 0 (ch_at tX2_init 17 rfl) fq_X2_21 rfl rfl rfl rfl (Nat.le_of_ble_eq_true rfl) rfl ?_
  refine cn_aload_n 0 0 (ch_at tX2_init 18 rfl) rfl rfl ?_
  refine cn_iconst (3) (ch_at tX2_init 19 rfl) rfl ?_
  refine cn_put (ws' := [(b, .inr (2, [.ref q1, .ref q2, .int 0, .ref q3, .ref q4, .int 0, .int 3, .int 0])), (q1, .inl (X.2.2.1 .int, 12, .inl (fun _ => 0))), (q2, .inl (X.2.2.1 .int, 12, .inl (fun _ => 0))), (q3, .inl (X.2.2.1 .int, 36, .inl (fun _ => 0))), (q4, .inl (X.2.2.1 .int, 12, .inl (fun _ => 0)))]) 0 (ch_at tX2_init 20 rfl) fq_X2_24 rfl rfl rfl (Nat.le_of_ble_eq_true rfl) rfl ?_
  refine cn_aload_n 0 0 (ch_at tX2_init 21 rfl) rfl rfl ?_
  refine cn_iconst (1) (ch_at tX2_init 22 rfl) rfl ?_
  refine cn_put (ws' := [(b, .inr (2, [.ref q1, .ref q2, .int 0, .ref q3, .ref q4, .int 0, .int 3, .int 1])), (q1, .inl (X.2.2.1 .int, 12, .inl (fun _ => 0))), (q2, .inl (X.2.2.1 .int, 12, .inl (fun _ => 0))), (q3, .inl (X.2.2.1 .int, 36, .inl (fun _ => 0))), (q4, .inl (X.2.2.1 .int, 12, .inl (fun _ => 0)))]) 0 (ch_at tX2_init 23 rfl) fq_X2_28 rfl rfl rfl (Nat.le_of_ble_eq_true rfl) rfl ?_
  exact cn_ret (ch_at tX2_init 24 rfl) rfl (by decide) (by decide) ⟨q1, q2, q3, q4, rfl⟩
theorem fq_X3_11 : cn_FQ RX3 11 3 0 (tyX3 0) true := cn_FQof fl_X3_11 rfl rfl rfl (tyX3_ok 0 (by decide)) ⟨tyX3, tyX3_ok⟩ nmX3
theorem fq_X3_15 : cn_FQ RX3 15 3 1 (tyX3 1) true := cn_FQof fl_X3_15 rfl rfl rfl (tyX3_ok 1 (by decide)) ⟨tyX3, tyX3_ok⟩ nmX3
theorem fq_X3_18 : cn_FQ RX3 18 3 2 (tyX3 2) true := cn_FQof fl_X3_18 rfl rfl rfl (tyX3_ok 2 (by decide)) ⟨tyX3, tyX3_ok⟩ nmX3
theorem fq_X3_21 : cn_FQ RX3 21 3 4 (tyX3 4) true := cn_FQof fl_X3_21 rfl rfl rfl (tyX3_ok 4 (by decide)) ⟨tyX3, tyX3_ok⟩ nmX3
theorem fq_X3_24 : cn_FQ RX3 24 3 5 (tyX3 5) true := cn_FQof fl_X3_24 rfl rfl rfl (tyX3_ok 5 (by decide)) ⟨tyX3, tyX3_ok⟩ nmX3
theorem fq_X3_27 : cn_FQ RX3 27 3 6 (tyX3 6) true := cn_FQof fl_X3_27 rfl rfl rfl (tyX3_ok 6 (by decide)) ⟨tyX3, tyX3_ok⟩ nmX3
theorem n_X3 {X : ch_X} {d : Nat} (b : Nat) : cn_Ex X (d + 1) 6 854 mX3_init [.ref b] [(b, .inr (3, [.null, .null, .null, .int 0, .null, .null, .null]))] (fun ws' => ∃ q1 q2 q3 q4 q5 q6, ws' = [(b, .inr (3, [.ref q1, .ref q2, .ref q3, .int 0, .ref q4, .ref q5, .ref q6])), (q1, .inl (X.2.2.1 .int, 16, .inl (fun _ => 0))), (q2, .inl (X.2.2.1 .int, 16, .inl (fun _ => 0))), (q3, .inl (X.2.2.1 .int, 16, .inl (fun _ => 0))), (q4, .inl (X.2.2.1 .int, 4, .inl (fun _ => 0))), (q5, .inl (X.2.2.1 .int, 401, .inl (fun _ => 0))), (q6, .inl (X.2.2.1 .int, 401, .inl (fun _ => 0)))]) := by
  refine cn_entry [(0, .ref b)] (by decide) (Nat.le_of_ble_eq_true rfl) rfl ?_
  refine cn_aload_n 0 0 (ch_at tX3_init 0 rfl) rfl rfl ?_
  refine cn_objInit (ch_at tX3_init 1 rfl) (ch_mem (ch_t1 144 rfl) rfl) wc_oi wc_oc (by omega) ?_
  refine cn_aload_n 0 0 (ch_at tX3_init 2 rfl) rfl rfl ?_
  refine cn_bipush (16) (ch_at tX3_init 3 rfl) rfl ?_
  refine cn_newI 16 (ws' := fun q1 => [(b, .inr (3, [.null, .null, .null, .int 0, .null, .null, .null])), (q1, .inl (X.2.2.1 .int, 16, .inl (fun _ => 0)))]) (ch_at tX3_init 4 rfl) wc_aint (by decide) (by decide) (by decide) (by decide) (by decide) (fun _ => rfl) (fun q1 => ?_)
  refine cn_putF (ws' := [(b, .inr (3, [.ref q1, .null, .null, .int 0, .null, .null, .null])), (q1, .inl (X.2.2.1 .int, 16, .inl (fun _ => 0)))]) 0 (ch_at tX3_init 5 rfl) fq_X3_11 rfl rfl rfl rfl (Nat.le_of_ble_eq_true rfl) rfl ?_
  refine cn_aload_n 0 0 (ch_at tX3_init 6 rfl) rfl rfl ?_
  refine cn_bipush (16) (ch_at tX3_init 7 rfl) rfl ?_
  refine cn_newI 16 (ws' := fun q2 => [(b, .inr (3, [.ref q1, .null, .null, .int 0, .null, .null, .null])), (q1, .inl (X.2.2.1 .int, 16, .inl (fun _ => 0))), (q2, .inl (X.2.2.1 .int, 16, .inl (fun _ => 0)))]) (ch_at tX3_init 8 rfl) wc_aint (by decide) (by decide) (by decide) (by decide) (by decide) (fun _ => rfl) (fun q2 => ?_)
  refine cn_putF (ws' := [(b, .inr (3, [.ref q1, .ref q2, .null, .int 0, .null, .null, .null])), (q1, .inl (X.2.2.1 .int, 16, .inl (fun _ => 0))), (q2, .inl (X.2.2.1 .int, 16, .inl (fun _ => 0)))]) 0 (ch_at tX3_init 9 rfl) fq_X3_15 rfl rfl rfl rfl (Nat.le_of_ble_eq_true rfl) rfl ?_
  refine cn_aload_n 0 0 (ch_at tX3_init 10 rfl) rfl rfl ?_
  refine cn_bipush (16) (ch_at tX3_init 11 rfl) rfl ?_
  refine cn_newI 16 (ws' := fun q3 => [(b, .inr (3, [.ref q1, .ref q2, .null, .int 0, .null, .null, .null])), (q1, .inl (X.2.2.1 .int, 16, .inl (fun _ => 0))), (q2, .inl (X.2.2.1 .int, 16, .inl (fun _ => 0))), (q3, .inl (X.2.2.1 .int, 16, .inl (fun _ => 0)))]) (ch_at tX3_init 12 rfl) wc_aint (by decide) (by decide) (by decide) (by decide) (by decide) (fun _ => rfl) (fun q3 => ?_)
  refine cn_putF (ws' := [(b, .inr (3, [.ref q1, .ref q2, .ref q3, .int 0, .null, .null, .null])), (q1, .inl (X.2.2.1 .int, 16, .inl (fun _ => 0))), (q2, .inl (X.2.2.1 .int, 16, .inl (fun _ => 0))), (q3, .inl (X.2.2.1 .int, 16, .inl (fun _ => 0)))]) 0 (ch_at tX3_init 13 rfl) fq_X3_18 rfl rfl rfl rfl (Nat.le_of_ble_eq_true rfl) rfl ?_
  refine cn_aload_n 0 0 (ch_at tX3_init 14 rfl) rfl rfl ?_
  refine cn_iconst (4) (ch_at tX3_init 15 rfl) rfl ?_
  refine cn_newI 4 (ws' := fun q4 => [(b, .inr (3, [.ref q1, .ref q2, .ref q3, .int 0, .null, .null, .null])), (q1, .inl (X.2.2.1 .int, 16, .inl (fun _ => 0))), (q2, .inl (X.2.2.1 .int, 16, .inl (fun _ => 0))), (q3, .inl (X.2.2.1 .int, 16, .inl (fun _ => 0))), (q4, .inl (X.2.2.1 .int, 4, .inl (fun _ => 0)))]) (ch_at tX3_init 16 rfl) wc_aint (by decide) (by decide) (by decide) (by decide) (by decide) (fun _ => rfl) (fun q4 => ?_)
  refine cn_putF (ws' := [(b, .inr (3, [.ref q1, .ref q2, .ref q3, .int 0, .ref q4, .null, .null])), (q1, .inl (X.2.2.1 .int, 16, .inl (fun _ => 0))), (q2, .inl (X.2.2.1 .int, 16, .inl (fun _ => 0))), (q3, .inl (X.2.2.1 .int, 16, .inl (fun _ => 0))), (q4, .inl (X.2.2.1 .int, 4, .inl (fun _ => 0)))]) 0 (ch_at tX3_init 17 rfl) fq_X3_21 rfl rfl rfl rfl (Nat.le_of_ble_eq_true rfl) rfl ?_
  refine cn_aload_n 0 0 (ch_at tX3_init 18 rfl) rfl rfl ?_
  refine cn_sipush (401) (ch_at tX3_init 19 rfl) rfl ?_
  refine cn_newI 401 (ws' := fun q5 => [(b, .inr (3, [.ref q1, .ref q2, .ref q3, .int 0, .ref q4, .null, .null])), (q1, .inl (X.2.2.1 .int, 16, .inl (fun _ => 0))), (q2, .inl (X.2.2.1 .int, 16, .inl (fun _ => 0))), (q3, .inl (X.2.2.1 .int, 16, .inl (fun _ => 0))), (q4, .inl (X.2.2.1 .int, 4, .inl (fun _ => 0))), (q5, .inl (X.2.2.1 .int, 401, .inl (fun _ => 0)))]) (ch_at tX3_init 20 rfl) wc_aint (by decide) (by decide) (by decide) (by decide) (by decide) (fun _ => rfl) (fun q5 => ?_)
  refine cn_putF (ws' := [(b, .inr (3, [.ref q1, .ref q2, .ref q3, .int 0, .ref q4, .ref q5, .null])), (q1, .inl (X.2.2.1 .int, 16, .inl (fun _ => 0))), (q2, .inl (X.2.2.1 .int, 16, .inl (fun _ => 0))), (q3, .inl (X.2.2.1 .int, 16, .inl (fun _ => 0))), (q4, .inl (X.2.2.1 .int, 4, .inl (fun _ => 0))), (q5, .inl (X.2.2.1 .int, 401, .inl (fun _ => 0)))]) 0 (ch_at tX3_init 21 rfl) fq_X3_24 rfl rfl rfl rfl (Nat.le_of_ble_eq_true rfl) rfl ?_
  refine cn_aload_n 0 0 (ch_at tX3_init 22 rfl) rfl rfl ?_
  refine cn_sipush (401) (ch_at tX3_init 23 rfl) rfl ?_
  refine cn_newI 401 (ws' := fun q6 => [(b, .inr (3, [.ref q1, .ref q2, .ref q3, .int 0, .ref q4, .ref q5, .null])), (q1, .inl (X.2.2.1 .int, 16, .inl (fun _ => 0))), (q2, .inl (X.2.2.1 .int, 16, .inl (fun _ => 0))), (q3, .inl (X.2.2.1 .int, 16, .inl (fun _ => 0))), (q4, .inl (X.2.2.1 .int, 4, .inl (fun _ => 0))), (q5, .inl (X.2.2.1 .int, 401, .inl (fun _ => 0))), (q6, .inl (X.2.2.1 .int, 401, .inl (fun _ => 0)))]) (ch_at tX3_init 24 rfl) wc_aint (by decide) (by decide) (by decide) (by decide) (by decide) (fun _ => rfl) (fun q6 => ?_)
  refine cn_putF (ws' := [(b, .inr (3, [.ref q1, .ref q2, .ref q3, .int 0, .ref q4, .ref q5, .ref q6])), (q1, .inl (X.2.2.1 .int, 16, .inl (fun _ => 0))), (q2, .inl (X.2.2.1 .int, 16, .inl (fun _ => 0))), (q3, .inl (X.2.2.1 .int, 16, .inl (fun _ => 0))), (q4, .inl (X.2.2.1 .int, 4, .inl (fun _ => 0))), (q5, .inl (X.2.2.1 .int, 401, .inl (fun _ => 0))), (q6, .inl (X.2.2.1 .int, 401, .inl (fun _ => 0)))]) 0 (ch_at tX3_init 25 rfl) fq_X3_27 rfl rfl rfl rfl (Nat.le_of_ble_eq_true rfl) rfl ?_
  exact cn_ret (ch_at tX3_init 26 rfl) rfl (by decide) (by decide) ⟨q1, q2, q3, q4, q5, q6, rfl⟩
theorem fq_X6_9 : cn_FQ RX6 9 6 0 (tyX6 0) true := cn_FQof fl_X6_9 rfl rfl rfl (tyX6_ok 0 (by decide)) ⟨tyX6, tyX6_ok⟩ nmX6
theorem fq_X6_15 : cn_FQ RX6 15 6 2 (tyX6 2) false := cn_FQof fl_X6_15 rfl rfl rfl (tyX6_ok 2 (by decide)) ⟨tyX6, tyX6_ok⟩ nmX6
theorem fq_X6_19 : cn_FQ RX6 19 6 3 (tyX6 3) false := cn_FQof fl_X6_19 rfl rfl rfl (tyX6_ok 3 (by decide)) ⟨tyX6, tyX6_ok⟩ nmX6
theorem fq_X6_22 : cn_FQ RX6 22 6 15 (tyX6 15) true := cn_FQof fl_X6_22 rfl rfl rfl (tyX6_ok 15 (by decide)) ⟨tyX6, tyX6_ok⟩ nmX6
theorem n_X6 {X : ch_X} {d : Nat} (b : Nat) : cn_Ex X (d + 1) 2 364 mX6_init [.ref b] [(b, .inr (6, [.null, .int 0, .int 0, .int 0, .int 0, .int 0, .int 0, .int 0, .int 0, .int 0, .int 0, .int 0, .int 0, .int 0, .int 0, .null, .int 0]))] (fun ws' => ∃ q1 q2, ws' = [(b, .inr (6, [.ref q1, .int 0, .int (-1), .int (-1), .int 0, .int 0, .int 0, .int 0, .int 0, .int 0, .int 0, .int 0, .int 0, .int 0, .int 0, .ref q2, .int 0])), (q1, .inl (X.2.2.1 .int, 300, .inl (fun _ => 0))), (q2, .inl (X.2.2.1 .int, 64, .inl (fun _ => 0)))]) := by
  refine cn_entry [(0, .ref b)] (by decide) (Nat.le_of_ble_eq_true rfl) rfl ?_
  refine cn_aload_n 0 0 (ch_at tX6_init 0 rfl) rfl rfl ?_
  refine cn_objInit (ch_at tX6_init 1 rfl) (ch_mem (ch_t2 100 rfl) rfl) wc_oi wc_oc (by omega) ?_
  refine cn_aload_n 0 0 (ch_at tX6_init 2 rfl) rfl rfl ?_
  refine cn_sipush (300) (ch_at tX6_init 3 rfl) rfl ?_
  refine cn_newI 300 (ws' := fun q1 => [(b, .inr (6, [.null, .int 0, .int 0, .int 0, .int 0, .int 0, .int 0, .int 0, .int 0, .int 0, .int 0, .int 0, .int 0, .int 0, .int 0, .null, .int 0])), (q1, .inl (X.2.2.1 .int, 300, .inl (fun _ => 0)))]) (ch_at tX6_init 4 rfl) wc_aint (by decide) (by decide) (by decide) (by decide) (by decide) (fun _ => rfl) (fun q1 => ?_)
  refine cn_putF (ws' := [(b, .inr (6, [.ref q1, .int 0, .int 0, .int 0, .int 0, .int 0, .int 0, .int 0, .int 0, .int 0, .int 0, .int 0, .int 0, .int 0, .int 0, .null, .int 0])), (q1, .inl (X.2.2.1 .int, 300, .inl (fun _ => 0)))]) 0 (ch_at tX6_init 5 rfl) fq_X6_9 rfl rfl rfl rfl (Nat.le_of_ble_eq_true rfl) rfl ?_
  refine cn_aload_n 0 0 (ch_at tX6_init 6 rfl) rfl rfl ?_
  refine cn_iconst (-1) (ch_at tX6_init 7 rfl) rfl ?_
  refine cn_put (ws' := [(b, .inr (6, [.ref q1, .int 0, .int (-1), .int 0, .int 0, .int 0, .int 0, .int 0, .int 0, .int 0, .int 0, .int 0, .int 0, .int 0, .int 0, .null, .int 0])), (q1, .inl (X.2.2.1 .int, 300, .inl (fun _ => 0)))]) 0 (ch_at tX6_init 8 rfl) fq_X6_15 rfl rfl rfl (Nat.le_of_ble_eq_true rfl) rfl ?_
  refine cn_aload_n 0 0 (ch_at tX6_init 9 rfl) rfl rfl ?_
  refine cn_iconst (-1) (ch_at tX6_init 10 rfl) rfl ?_
  refine cn_put (ws' := [(b, .inr (6, [.ref q1, .int 0, .int (-1), .int (-1), .int 0, .int 0, .int 0, .int 0, .int 0, .int 0, .int 0, .int 0, .int 0, .int 0, .int 0, .null, .int 0])), (q1, .inl (X.2.2.1 .int, 300, .inl (fun _ => 0)))]) 0 (ch_at tX6_init 11 rfl) fq_X6_19 rfl rfl rfl (Nat.le_of_ble_eq_true rfl) rfl ?_
  refine cn_aload_n 0 0 (ch_at tX6_init 12 rfl) rfl rfl ?_
  refine cn_bipush (64) (ch_at tX6_init 13 rfl) rfl ?_
  refine cn_newI 64 (ws' := fun q2 => [(b, .inr (6, [.ref q1, .int 0, .int (-1), .int (-1), .int 0, .int 0, .int 0, .int 0, .int 0, .int 0, .int 0, .int 0, .int 0, .int 0, .int 0, .null, .int 0])), (q1, .inl (X.2.2.1 .int, 300, .inl (fun _ => 0))), (q2, .inl (X.2.2.1 .int, 64, .inl (fun _ => 0)))]) (ch_at tX6_init 14 rfl) wc_aint (by decide) (by decide) (by decide) (by decide) (by decide) (fun _ => rfl) (fun q2 => ?_)
  refine cn_putF (ws' := [(b, .inr (6, [.ref q1, .int 0, .int (-1), .int (-1), .int 0, .int 0, .int 0, .int 0, .int 0, .int 0, .int 0, .int 0, .int 0, .int 0, .int 0, .ref q2, .int 0])), (q1, .inl (X.2.2.1 .int, 300, .inl (fun _ => 0))), (q2, .inl (X.2.2.1 .int, 64, .inl (fun _ => 0)))]) 0 (ch_at tX6_init 15 rfl) fq_X6_22 rfl rfl rfl rfl (Nat.le_of_ble_eq_true rfl) rfl ?_
  exact cn_ret (ch_at tX6_init 16 rfl) rfl (by decide) (by decide) ⟨q1, q2, rfl⟩
theorem fq_X1_11 : cn_FQ RX1 11 1 3 (tyX1 3) true := cn_FQof fl_X1_11 rfl rfl rfl (tyX1_ok 3 (by decide)) ⟨tyX1, tyX1_ok⟩ nmX1
theorem fq_X1_15 : cn_FQ RX1 15 1 4 (tyX1 4) true := cn_FQof fl_X1_15 rfl rfl rfl (tyX1_ok 4 (by decide)) ⟨tyX1, tyX1_ok⟩ nmX1
theorem fq_X1_18 : cn_FQ RX1 18 1 0 (tyX1 0) true := cn_FQof fl_X1_18 rfl rfl rfl (tyX1_ok 0 (by decide)) ⟨tyX1, tyX1_ok⟩ nmX1
theorem fq_X1_22 : cn_FQ RX1 22 1 1 (tyX1 1) true := cn_FQof fl_X1_22 rfl rfl rfl (tyX1_ok 1 (by decide)) ⟨tyX1, tyX1_ok⟩ nmX1
theorem fq_X1_26 : cn_FQ RX1 26 1 2 (tyX1 2) true := cn_FQof fl_X1_26 rfl rfl rfl (tyX1_ok 2 (by decide)) ⟨tyX1, tyX1_ok⟩ nmX1
theorem n_X1 {X : ch_X} {d : Nat} (b a1 a2 a3 : Nat) : cn_Ex X (d + 1) 2 1860 mX1_init [.ref b, .ref a1, .ref a2, .ref a3] [(b, .inr (1, [.null, .null, .null, .null, .null]))] (fun ws' => ∃ q1 q2, ws' = [(b, .inr (1, [.ref a1, .ref a2, .ref a3, .ref q1, .ref q2])), (q1, .inl (X.2.2.1 .int, 1830, .inl (fun _ => 0))), (q2, .inl (X.2.2.1 .int, 30, .inl (fun _ => 0)))]) := by
  refine cn_entry [(0, .ref b), (1, .ref a1), (2, .ref a2), (3, .ref a3)] (by decide) (Nat.le_of_ble_eq_true rfl) rfl ?_
  refine cn_aload_n 0 0 (ch_at tX1_init 0 rfl) rfl rfl ?_
  refine cn_objInit (ch_at tX1_init 1 rfl) (ch_mem (ch_t2 78 rfl) rfl) wc_oi wc_oc (by omega) ?_
  refine cn_aload_n 0 0 (ch_at tX1_init 2 rfl) rfl rfl ?_
  refine cn_sipush (1830) (ch_at tX1_init 3 rfl) rfl ?_
  refine cn_newI 1830 (ws' := fun q1 => [(b, .inr (1, [.null, .null, .null, .null, .null])), (q1, .inl (X.2.2.1 .int, 1830, .inl (fun _ => 0)))]) (ch_at tX1_init 4 rfl) wc_aint (by decide) (by decide) (by decide) (by decide) (by decide) (fun _ => rfl) (fun q1 => ?_)
  refine cn_putF (ws' := [(b, .inr (1, [.null, .null, .null, .ref q1, .null])), (q1, .inl (X.2.2.1 .int, 1830, .inl (fun _ => 0)))]) 0 (ch_at tX1_init 5 rfl) fq_X1_11 rfl rfl rfl rfl (Nat.le_of_ble_eq_true rfl) rfl ?_
  refine cn_aload_n 0 0 (ch_at tX1_init 6 rfl) rfl rfl ?_
  refine cn_bipush (30) (ch_at tX1_init 7 rfl) rfl ?_
  refine cn_newI 30 (ws' := fun q2 => [(b, .inr (1, [.null, .null, .null, .ref q1, .null])), (q1, .inl (X.2.2.1 .int, 1830, .inl (fun _ => 0))), (q2, .inl (X.2.2.1 .int, 30, .inl (fun _ => 0)))]) (ch_at tX1_init 8 rfl) wc_aint (by decide) (by decide) (by decide) (by decide) (by decide) (fun _ => rfl) (fun q2 => ?_)
  refine cn_putF (ws' := [(b, .inr (1, [.null, .null, .null, .ref q1, .ref q2])), (q1, .inl (X.2.2.1 .int, 1830, .inl (fun _ => 0))), (q2, .inl (X.2.2.1 .int, 30, .inl (fun _ => 0)))]) 0 (ch_at tX1_init 9 rfl) fq_X1_15 rfl rfl rfl rfl (Nat.le_of_ble_eq_true rfl) rfl ?_
  refine cn_aload_n 0 0 (ch_at tX1_init 10 rfl) rfl rfl ?_
  refine cn_aload_n 1 1 (ch_at tX1_init 11 rfl) rfl rfl ?_
  refine cn_putF (ws' := [(b, .inr (1, [.ref a1, .null, .null, .ref q1, .ref q2])), (q1, .inl (X.2.2.1 .int, 1830, .inl (fun _ => 0))), (q2, .inl (X.2.2.1 .int, 30, .inl (fun _ => 0)))]) 0 (ch_at tX1_init 12 rfl) fq_X1_18 rfl rfl rfl rfl (Nat.le_of_ble_eq_true rfl) rfl ?_
  refine cn_aload_n 0 0 (ch_at tX1_init 13 rfl) rfl rfl ?_
  refine cn_aload_n 2 2 (ch_at tX1_init 14 rfl) rfl rfl ?_
  refine cn_putF (ws' := [(b, .inr (1, [.ref a1, .ref a2, .null, .ref q1, .ref q2])), (q1, .inl (X.2.2.1 .int, 1830, .inl (fun _ => 0))), (q2, .inl (X.2.2.1 .int, 30, .inl (fun _ => 0)))]) 0 (ch_at tX1_init 15 rfl) fq_X1_22 rfl rfl rfl rfl (Nat.le_of_ble_eq_true rfl) rfl ?_
  refine cn_aload_n 0 0 (ch_at tX1_init 16 rfl) rfl rfl ?_
  refine cn_aload_n 3 3 (ch_at tX1_init 17 rfl) rfl rfl ?_
  refine cn_putF (ws' := [(b, .inr (1, [.ref a1, .ref a2, .ref a3, .ref q1, .ref q2])), (q1, .inl (X.2.2.1 .int, 1830, .inl (fun _ => 0))), (q2, .inl (X.2.2.1 .int, 30, .inl (fun _ => 0)))]) 0 (ch_at tX1_init 18 rfl) fq_X1_26 rfl rfl rfl rfl (Nat.le_of_ble_eq_true rfl) rfl ?_
  exact cn_ret (ch_at tX1_init 19 rfl) rfl (by decide) (by decide) ⟨q1, q2, rfl⟩
theorem fq_X7_11 : cn_FQ RX7 11 7 3 (tyX7 3) true := cn_FQof fl_X7_11 rfl rfl rfl (tyX7_ok 3 (by decide)) ⟨tyX7, tyX7_ok⟩ nmX7
theorem fq_X7_15 : cn_FQ RX7 15 7 0 (tyX7 0) true := cn_FQof fl_X7_15 rfl rfl rfl (tyX7_ok 0 (by decide)) ⟨tyX7, tyX7_ok⟩ nmX7
theorem fq_X7_19 : cn_FQ RX7 19 7 1 (tyX7 1) true := cn_FQof fl_X7_19 rfl rfl rfl (tyX7_ok 1 (by decide)) ⟨tyX7, tyX7_ok⟩ nmX7
theorem fq_X7_23 : cn_FQ RX7 23 7 2 (tyX7 2) true := cn_FQof fl_X7_23 rfl rfl rfl (tyX7_ok 2 (by decide)) ⟨tyX7, tyX7_ok⟩ nmX7
theorem n_X7 {X : ch_X} {d : Nat} (b a1 a2 a3 : Nat) : cn_Ex X (d + 1) 1 64 mX7_init [.ref b, .ref a1, .ref a2, .ref a3] [(b, .inr (7, [.null, .null, .null, .null, .int 0]))] (fun ws' => ∃ q1, ws' = [(b, .inr (7, [.ref a1, .ref a2, .ref a3, .ref q1, .int 0])), (q1, .inl (X.2.2.1 .int, 64, .inl (fun _ => 0)))]) := by
  refine cn_entry [(0, .ref b), (1, .ref a1), (2, .ref a2), (3, .ref a3)] (by decide) (Nat.le_of_ble_eq_true rfl) rfl ?_
  refine cn_aload_n 0 0 (ch_at tX7_init 0 rfl) rfl rfl ?_
  refine cn_objInit (ch_at tX7_init 1 rfl) (ch_mem (ch_t2 162 rfl) rfl) wc_oi wc_oc (by omega) ?_
  refine cn_aload_n 0 0 (ch_at tX7_init 2 rfl) rfl rfl ?_
  refine cn_bipush (64) (ch_at tX7_init 3 rfl) rfl ?_
  refine cn_newI 64 (ws' := fun q1 => [(b, .inr (7, [.null, .null, .null, .null, .int 0])), (q1, .inl (X.2.2.1 .int, 64, .inl (fun _ => 0)))]) (ch_at tX7_init 4 rfl) wc_aint (by decide) (by decide) (by decide) (by decide) (by decide) (fun _ => rfl) (fun q1 => ?_)
  refine cn_putF (ws' := [(b, .inr (7, [.null, .null, .null, .ref q1, .int 0])), (q1, .inl (X.2.2.1 .int, 64, .inl (fun _ => 0)))]) 0 (ch_at tX7_init 5 rfl) fq_X7_11 rfl rfl rfl rfl (Nat.le_of_ble_eq_true rfl) rfl ?_
  refine cn_aload_n 0 0 (ch_at tX7_init 6 rfl) rfl rfl ?_
  refine cn_aload_n 1 1 (ch_at tX7_init 7 rfl) rfl rfl ?_
  refine cn_putF (ws' := [(b, .inr (7, [.ref a1, .null, .null, .ref q1, .int 0])), (q1, .inl (X.2.2.1 .int, 64, .inl (fun _ => 0)))]) 0 (ch_at tX7_init 8 rfl) fq_X7_15 rfl rfl rfl rfl (Nat.le_of_ble_eq_true rfl) rfl ?_
  refine cn_aload_n 0 0 (ch_at tX7_init 9 rfl) rfl rfl ?_
  refine cn_aload_n 2 2 (ch_at tX7_init 10 rfl) rfl rfl ?_
  refine cn_putF (ws' := [(b, .inr (7, [.ref a1, .ref a2, .null, .ref q1, .int 0])), (q1, .inl (X.2.2.1 .int, 64, .inl (fun _ => 0)))]) 0 (ch_at tX7_init 11 rfl) fq_X7_19 rfl rfl rfl rfl (Nat.le_of_ble_eq_true rfl) rfl ?_
  refine cn_aload_n 0 0 (ch_at tX7_init 12 rfl) rfl rfl ?_
  refine cn_aload_n 3 3 (ch_at tX7_init 13 rfl) rfl rfl ?_
  refine cn_putF (ws' := [(b, .inr (7, [.ref a1, .ref a2, .ref a3, .ref q1, .int 0])), (q1, .inl (X.2.2.1 .int, 64, .inl (fun _ => 0)))]) 0 (ch_at tX7_init 14 rfl) fq_X7_23 rfl rfl rfl rfl (Nat.le_of_ble_eq_true rfl) rfl ?_
  exact cn_ret (ch_at tX7_init 15 rfl) rfl (by decide) (by decide) ⟨q1, rfl⟩
