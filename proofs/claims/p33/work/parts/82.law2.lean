/-! ===== the law's own walk: its calls, its script, its end ===== -/
abbrev mL_law : ch_M := (x, code, 4, ret)
def cl_M (X : ch_X) (n : Nat) (f : Nat → Int32) : cm_M := (room_1, 600000, 7302250, (fun s _ => va_X (X.2.2.2.1 102) n f s s.heap ∧ X.2.2.2.1 102 < X.2.2.2.2.1.size ∧ s.heap.size = X.2.2.2.2.1.size), fun below args s => lw_Z below args s)
theorem cl_lret {p : Program} {l : Launch} {e : Env} {s : State} {m : MethodId} {args : Array Value} {below : List Frame} {meth : Method} {c : Code} (hx : p.tables.exec = Jvm.exec) (hb : c.code = code) (hr : meth.sig.returnType = ret) (hlocks : meth.locks = false) {pc : Nat} {H : Heap} {ls : Array Slot} (hdg : decode code pc = .ok (.ireturn, 1)) : W p l e room_1 s m args below meth c H [] 600000 7302250 (lw_Z below args s) (F0 m pc ls [.int 1]) := by
  intro T hT X
  obtain ⟨fs, hret, hrun, hended, hW, hframe⟩ := X.leave (v := some (.int 1)) (hlocks := hlocks) (fun h => by rw [hr] at h; cases h)
  have hmeth' : T.vm.method? m = some meth := X.method'
  refine ⟨T.setFrames fs, ?_, .returned (some (.int 1)), hrun, hended, rfl, ⟨_, rfl⟩, hW, hframe⟩
  jvm_step X.here [X.here.top, hx, hb, hdg, hmeth', hr, ret, narrow_b1]
  (try refine ⟨rfl, ?_⟩); (try refine ⟨rfl, ?_⟩)
  first | (intro acts; rw [hret _ acts rfl rfl rfl]) | rw [hret _ _ rfl rfl rfl]
  exact Steps.refl _
section CLR
variable {X : ch_X} {n : Nat} {f : Nat → Int32} {pc : Nat}
theorem cl_notA {X : ch_X} (hO : ch_Ok X) {b : Nat} (hb : b < X.2.2.2.2.1.size) : ¬ ch_A X b := by
  rintro ⟨k, hk, rfl⟩
  have := hO.2 k hk
  omega
theorem cl_ret {L : ck_L} {w : ck_W} (hd : decode code pc = .ok (.ireturn, 1)) : cq_At X (cl_M X n f) mL_law pc L [.inl 1] w := by
  intro hw hl p e s m args below meth c E H locs ls hP hS hl2
  obtain ⟨hx, hb, hr, hml, hts, hown, hlocks, hK, hB, hO, hN, hV⟩ := id E
  refine va_forget (fun q hq => ?_) (cl_lret hx hb hr hlocks hd)
  obtain ⟨k, hk, e1⟩ := hS.2.2 q hq
  have := hO.2 k hk
  have := hV.2.2
  omega
/-- the script, as whole numbers -/
def cl_s (f : Nat → Int32) (j : Int) : Int := (f j.toNat).toInt
theorem cl_srng (f : Nat → Int32) (j : Int) : ck_i (cl_s f j) := ck_rng _
theorem cl_sld {L : ck_L} {S : List ck_V} {w : ck_W} (nx : Nat) (hp : pc + 1 = nx) {j : Int} (hd : decode code pc = .ok (.iaload, 1)) (hn : n < 2147483648) (hj : 0 ≤ j ∧ j < (n : Int)) (k : cq_At X (cl_M X n f) mL_law nx L (.inl (cl_s f j) :: S) w) : cq_At X (cl_M X n f) mL_law pc L (.inl j :: .inr (.inr 102) :: S) w := by
  subst hp
  intro hw hl p e s m args below meth c E H locs ls hP hS hl2
  obtain ⟨hx, hb, hr, hml, hts, hown, hlocks, hK, hB, hO, hN, hV⟩ := id E
  have hj2 : ck_i j := ⟨by omega, by omega⟩
  have e1 : (Int32.ofInt j).toNatClampNeg = j.toNat := by show (Int32.ofInt j).toInt.toNat = j.toNat; rw [ck_i32 hj2]
  have kk := k hw hl p e s m args below meth c E H locs ls hP hS hl2
  refine va_sld hx hb hV.1 (Nat.lt_of_lt_of_le hV.2.1 hB.1) (cl_notA hO hV.2.1) hS (ch_in (by rw [ck_i32 hj2]; exact hj)) hd ?_
  rw [e1]
  have e2 : Value.int (f j.toNat) = ch_re X (ck_v (.inl (cl_s f j))) := by show _ = Value.int (Int32.ofInt (cl_s f j)); unfold cl_s; rw [Int32.ofInt_toInt]
  rw [e2]
  exact kk
theorem cl_slen {L : ck_L} {S : List ck_V} {w : ck_W} (nx : Nat) (hp : pc + 1 = nx) (hd : decode code pc = .ok (.arraylength, 1)) (k : cq_At X (cl_M X n f) mL_law nx L (.inl (n : Int) :: S) w) : cq_At X (cl_M X n f) mL_law pc L (.inr (.inr 102) :: S) w := by
  subst hp
  intro hw hl p e s m args below meth c E H locs ls hP hS hl2
  obtain ⟨hx, hb, hr, hml, hts, hown, hlocks, hK, hB, hO, hN, hV⟩ := id E
  have kk := k hw hl p e s m args below meth c E H locs ls hP hS hl2
  refine va_slen hx hb hV.1 (Nat.lt_of_lt_of_le hV.2.1 hB.1) (cl_notA hO hV.2.1) hS hd ?_
  have e2 : Value.int (Int32.ofNat n) = ch_re X (ck_v (.inl (n : Int))) := by show _ = Value.int (Int32.ofInt (n : Int)); rw [kb_n]
  rw [e2]
  exact kk
theorem cl_back {M : cm_M} {y : ch_M} {L : ch_Lo} {S : List Value} {S' : List Value} {p : Program} {e : Env} {s : State} {m : MethodId} {args : Array Value} {below : List Frame} {meth : Method} {c : Code} (E : cm_E X M y p s m args meth c) {H : Heap} {locs : List Loc} {ls : Array Slot} (hS : va_S (ch_A X) s.heap H locs) (hl : lv_has ls y.2.2.1 (ch_as X 0 L)) {a : Array Value}
    (hr : va_Run p X.1 e M.1 s m args below meth c H locs M.2.1 M.2.2.1 0 0 (F0 m pc ls S') (S.map (ch_re X)) (ch_Qc X (fun r w' => cm_At X M y (pc + 3) L (r.toList ++ S) w') a) (ch_A X)) :
    W p X.1 e M.1 s m args below meth c H locs M.2.1 M.2.2.1 (M.2.2.2.2 below args s) (F0 m pc ls S') := by
  intro T hT Y
  obtain ⟨v, st₀, t, T', L', h0, Y', hL, e1, e2, ⟨⟨r, w', hv, hk, hP'⟩, hz, hk2⟩, st⟩ := hr T hT Y
  cases hv
  rw [h0] at hz hk2
  have hS' : va_S (ch_A X) s.heap T'.heap (locs ++ L') := ⟨Nat.le_trans hS.1 (by rw [e1]; exact hz), fun q h1 h2 => by rw [e1, hk2 q (Nat.lt_of_lt_of_le h1 hS.1) h2]; exact hS.2.1 q h1 h2, fun q hq => by
      rcases List.mem_append.mp hq with h | h
      · exact hS.2.2 q h
      · exact hL q h⟩
  obtain ⟨t2, a1, b1⟩ := hk p e s m args below meth c E T'.heap (locs ++ L') ls (by rw [e1]; exact hP') hS' hl T' rfl Y'
  refine ⟨t2, st t2 ?_, b1⟩
  have e3 : (r.map (ch_re X)).toList ++ S.map (ch_re X) = (r.toList ++ S).map (ch_re X) := by
    cases r <;> simp
  rw [e3]
  exact a1
theorem cl_callV0 {M : cm_M} {y z : ch_M} {L : ch_Lo} {w : ch_W} {d index n ci k : Nat} {fs : List ch_F} (As S : List Value) {S0 : List Value} (hR : d + 1 ≤ M.1.frames ∧ 40 * (d + 1) ≤ M.1.locals) (hM : M.2.1 ≤ M.1.cells ∧ M.2.2.1 ≤ M.1.slots) (hd : decode y.2.1 pc = .ok (.invokevirtual index, 3)) (hc : ch_CV y.1.cls index n ci z) (hs : X.2.2.2.2.2[k]? = some (.inr (ci, fs))) (hn : As.length = n) (h0 : S0 = As.reverse ++ .ref k :: S) (h8 : (S.map fun v => v.category).sum ≤ 8)
    (kk : ch_Ex X d z (.ref k :: As) w (fun r w' => cm_At X M y (pc + 3) L (r.toList ++ S) w')) : cm_At X M y pc L S0 w := by
  intro p e s m args below meth c E H locs ls hP hS hl
  obtain ⟨hx, hb, hr, hml, hts, hown, hlocks, hK, hB, hO, hN, hV⟩ := id E
  obtain ⟨c1, c2, c2b, c3, c4, c5, c6, T, N, hcl⟩ := hc
  subst h0
  have ha := ch_ws_at (w := w) hs
  refine cl_back (S := S) E hS hl (va_runV (n := n) (C := z.1.cls) (b := X.2.2.2.1 k) (As := As.map (ch_re X)) (rest := S.map (ch_re X)) (Ts := ch_T) (own := y.1.cls) (nL := y.2.2.1) ⟨hx, hb, hml, hown, hts⟩ kk ⟨callB_of n hts (ch_good (fun _ h => h) c4) rfl rfl rfl (hts _ c3) (hts _ c1) c5 ⟨hR.1, ?_⟩, hts _ c2, hts _ c2b⟩ ⟨ch_blind, va_recv hK hP hcl ha, fun U hU hW => ⟨rfl, by rw [hU]; exact hP, by rw [hU]; exact ch_B.of hO hB hS, va_K.moved hW.alike hK, hN.warm hW hU hS⟩⟩ rfl (by simp [hn]) hl.1 (by simp [ch_re]) (lv_room ?_) hd hM)
  · show 8 + (z.2.2.1 + 11) + 40 * d ≤ M.1.locals
    have := hR.2
    omega
  · have : (S.map (ch_re X)).map (fun v => v.category) = S.map (fun v => v.category) := by simp [ch_re_cat]
    rw [this]; exact h8
theorem cq_callV {L : ck_L} {w : ck_W} (nx : Nat) (hp : pc + 3 = nx) {z : ch_M} {index q ci k : Nat} {fs : List ch_F} (As S : List ck_V) {S0 : List ck_V} (hd : decode code pc = .ok (.invokevirtual index, 3)) (hc : ch_CV RL index q ci z) (hs : X.2.2.2.2.2[k]? = some (.inr (ci, fs))) (hn : As.length = q) (h0 : S0 = As.reverse ++ .inr (.inr k) :: S) (h8 : (S.map ck_cat).sum ≤ 8) (ha : ck_aok As) (kk : ck_Ex X 11 z (.inr (.inr k) :: As) w (fun r w' => ck_aok r.toList → cq_At X (cl_M X n f) mL_law nx L (r.toList ++ S) w')) : cq_At X (cl_M X n f) mL_law pc L S0 w := by
  subst hp; intro hw hl; subst h0
  exact cl_callV0 (M := cl_M X n f) (y := mL_law) (As.map ck_v) (S.map ck_v) ⟨Nat.le_of_ble_eq_true rfl, Nat.le_of_ble_eq_true rfl⟩ ⟨Nat.le_refl _, Nat.le_refl _⟩ hd hc hs (by rw [List.length_map]; exact hn) (by simp [ck_v]) (by rw [ck_cats]; exact h8) (ck_exm (kk hw ⟨trivial, ha⟩) (fun _ _ ⟨r', w', h1, h2, h3, h4, h5⟩ => by subst h1; refine cq_tr h2 ?_; have h := h5 h4 h3 hl; cases r' <;> exact h))
end CLR
