/-! ===== decode, by bytes: printed by gen/dec.py ===== -/
def dz_m : List UInt8 → List Nat → Bool
  | _, [] => true
  | [], _ :: _ => false
  | b :: bs, n :: ns => b.toNat == n && dz_m bs ns
theorem dz_b {α β : Type} {r : Jvm.ClassFile.Decoder α} {G : α → Jvm.ClassFile.Decoder β} {c : ByteArray} {p q : Nat} {v : α} (h : r c p = .ok (v, q)) : (r >>= G) c p = G v c q := by
  have e : (r >>= G) c p = Except.bind (r c p) (fun x => G x.1 c x.2) := rfl
  rw [e, h]
  rfl
theorem dz_u {c : ByteArray} {p n : Nat} {ns : List Nat} (h : dz_m (c.data.toList.drop p) (n :: ns) = true) : (Jvm.ClassFile.Reader.u1 : Jvm.ClassFile.Decoder Nat) c p = .ok (n, p + 1) ∧ dz_m (c.data.toList.drop (p + 1)) ns = true := by
  cases hl : c.data.toList.drop p with
  | nil => rw [hl] at h; exact absurd h (by simp [dz_m])
  | cons b bs =>
    rw [hl, dz_m, Bool.and_eq_true] at h
    have lt : p < c.data.toList.length := by
      refine Classical.byContradiction (fun q => ?_)
      rw [List.drop_eq_nil_of_le (by omega)] at hl
      cases hl
    have e := List.drop_eq_getElem_cons lt
    rw [hl] at e
    have e1 : b = c.data.toList[p] := (List.cons.inj e).1
    have e2 : bs = c.data.toList.drop (p + 1) := (List.cons.inj e).2
    have hs : p < c.size := by
      have : c.size = c.data.toList.length := by rw [Array.length_toList]; rfl
      omega
    have hb : c[p]'hs = b := by
      rw [e1, Array.getElem_toList]
      rfl
    refine ⟨?_, by rw [← e2]; exact h.2⟩
    have f : (Jvm.ClassFile.Reader.u1 : Jvm.ClassFile.Decoder Nat) c p = (if h : p < c.size then (do set (p + 1); Pure.pure (c[p]'h).toNat : Jvm.ClassFile.Decoder Nat) else throw (Jvm.ClassFile.HasTruncated.truncated p)) c p := rfl
    rw [f, dif_pos hs]
    have g : ((do set (p + 1); Pure.pure (c[p]'hs).toNat : Jvm.ClassFile.Decoder Nat)) c p = .ok ((c[p]'hs).toNat, p + 1) := rfl
    rw [g, hb, eq_of_beq h.1]
theorem dz_u2 {c : ByteArray} {p a b : Nat} {ns : List Nat} (h : dz_m (c.data.toList.drop p) (a :: b :: ns) = true) : (Jvm.ClassFile.Reader.u2 : Jvm.ClassFile.Decoder Nat) c p = .ok (a * 256 + b, p + 2) := by
  have x := dz_u h
  have y := dz_u x.2
  unfold Jvm.ClassFile.Reader.u2
  rw [dz_b x.1, dz_b y.1]
  rfl
theorem dz_s1 {c : ByteArray} {p a : Nat} {ns : List Nat} (h : dz_m (c.data.toList.drop p) (a :: ns) = true) : (Jvm.ClassFile.Reader.s1 : Jvm.ClassFile.Decoder Int) c p = .ok (Jvm.ClassFile.Reader.signed 8 a, p + 1) := by
  have e : (Jvm.ClassFile.Reader.s1 : Jvm.ClassFile.Decoder Int) c p = Except.bind ((Jvm.ClassFile.Reader.u1 : Jvm.ClassFile.Decoder Nat) c p) (fun x => .ok (Jvm.ClassFile.Reader.signed 8 x.1, x.2)) := rfl
  rw [e, (dz_u h).1]
  rfl
theorem dz_s2 {c : ByteArray} {p a b : Nat} {ns : List Nat} (h : dz_m (c.data.toList.drop p) (a :: b :: ns) = true) : (Jvm.ClassFile.Reader.s2 : Jvm.ClassFile.Decoder Int) c p = .ok (Jvm.ClassFile.Reader.signed 16 (a * 256 + b), p + 2) := by
  have e : (Jvm.ClassFile.Reader.s2 : Jvm.ClassFile.Decoder Int) c p = Except.bind ((Jvm.ClassFile.Reader.u2 : Jvm.ClassFile.Decoder Nat) c p) (fun x => .ok (Jvm.ClassFile.Reader.signed 16 x.1, x.2)) := rfl
  rw [e, dz_u2 h]
  rfl
theorem dz_d {F : Nat → Jvm.ClassFile.Decoder Jvm.ClassFile.Instr} {c : ByteArray} {pc n q : Nat} {i : Jvm.ClassFile.Instr} (hF : Jvm.ClassFile.Decoder.instr pc = Jvm.ClassFile.Reader.u1 >>= F) (h : (Jvm.ClassFile.Reader.u1 : Jvm.ClassFile.Decoder Nat) c pc = .ok (n, pc + 1)) (hi : F n c (pc + 1) = .ok (i, q)) : decode c pc = .ok (i, q - pc) := by
  have e : decode c pc = Except.bind (Jvm.ClassFile.Decoder.instr pc c pc) (fun x => .ok (x.1, x.2 - pc)) := rfl
  rw [e, hF, dz_b h, hi]
  rfl
theorem dz_e {c : ByteArray} {pc q l : Nat} {i : Jvm.ClassFile.Instr} (h : decode c pc = .ok (i, q - pc)) (e : q - pc = l) : decode c pc = .ok (i, l) := by rw [← e]; exact h
theorem dz_0 {F : Nat → Jvm.ClassFile.Decoder Jvm.ClassFile.Instr} {c : ByteArray} {pc n : Nat} {i : Jvm.ClassFile.Instr} (hF : Jvm.ClassFile.Decoder.instr pc = Jvm.ClassFile.Reader.u1 >>= F) (hi : F n = Pure.pure i) (h : dz_m (c.data.toList.drop pc) [n] = true) : decode c pc = .ok (i, 1) :=
  dz_e (dz_d (q := pc + 1) hF (dz_u h).1 (by rw [hi]; rfl)) (by omega)
theorem dz_1 {F : Nat → Jvm.ClassFile.Decoder Jvm.ClassFile.Instr} {con : Nat → Jvm.ClassFile.Instr} {c : ByteArray} {pc n v : Nat} (hF : Jvm.ClassFile.Decoder.instr pc = Jvm.ClassFile.Reader.u1 >>= F) (hi : F n = Jvm.ClassFile.Reader.u1 >>= fun a => Pure.pure (con a)) (h : dz_m (c.data.toList.drop pc) [n, v] = true) : decode c pc = .ok (con v, 2) :=
  dz_e (dz_d (q := pc + 1 + 1) hF (dz_u h).1 (by rw [hi, dz_b (dz_u (dz_u h).2).1]; rfl)) (by omega)
theorem dz_3 {F : Nat → Jvm.ClassFile.Decoder Jvm.ClassFile.Instr} {con : Int → Jvm.ClassFile.Instr} {c : ByteArray} {pc n a : Nat} {v : Int} (hF : Jvm.ClassFile.Decoder.instr pc = Jvm.ClassFile.Reader.u1 >>= F) (hi : F n = Jvm.ClassFile.Reader.s1 >>= fun a => Pure.pure (con a)) (h : (dz_m (c.data.toList.drop pc) [n, a] && decide (Jvm.ClassFile.Reader.signed 8 a = v)) = true) : decode c pc = .ok (con v, 2) := by
  rw [Bool.and_eq_true] at h
  have e := of_decide_eq_true h.2
  refine dz_e (dz_d (q := pc + 1 + 1) hF (dz_u h.1).1 ?_) (by omega)
  rw [hi, dz_b (dz_s1 (dz_u h.1).2), e]; rfl
theorem dz_4 {F : Nat → Jvm.ClassFile.Decoder Jvm.ClassFile.Instr} {con : Nat → Jvm.ClassFile.Instr} {c : ByteArray} {pc n a b v : Nat} (hF : Jvm.ClassFile.Decoder.instr pc = Jvm.ClassFile.Reader.u1 >>= F) (hi : F n = Jvm.ClassFile.Reader.u2 >>= fun a => Pure.pure (con a)) (h : (dz_m (c.data.toList.drop pc) [n, a, b] && decide (a * 256 + b = v)) = true) : decode c pc = .ok (con v, 3) := by
  rw [Bool.and_eq_true] at h
  have e := of_decide_eq_true h.2
  refine dz_e (dz_d (q := pc + 1 + 2) hF (dz_u h.1).1 ?_) (by omega)
  rw [hi, dz_b (dz_u2 (dz_u h.1).2), e]; rfl
theorem dz_5 {F : Nat → Jvm.ClassFile.Decoder Jvm.ClassFile.Instr} {con : Int → Jvm.ClassFile.Instr} {c : ByteArray} {pc n a b : Nat} {v : Int} (hF : Jvm.ClassFile.Decoder.instr pc = Jvm.ClassFile.Reader.u1 >>= F) (hi : F n = Jvm.ClassFile.Reader.s2 >>= fun a => Pure.pure (con a)) (h : (dz_m (c.data.toList.drop pc) [n, a, b] && decide (Jvm.ClassFile.Reader.signed 16 (a * 256 + b) = v)) = true) : decode c pc = .ok (con v, 3) := by
  rw [Bool.and_eq_true] at h
  have e := of_decide_eq_true h.2
  refine dz_e (dz_d (q := pc + 1 + 2) hF (dz_u h.1).1 ?_) (by omega)
  rw [hi, dz_b (dz_s2 (dz_u h.1).2), e]; rfl
theorem dz_6 {F : Nat → Jvm.ClassFile.Decoder Jvm.ClassFile.Instr} {c : ByteArray} {pc n a b : Nat} {v : Int} (hF : Jvm.ClassFile.Decoder.instr pc = Jvm.ClassFile.Reader.u1 >>= F) (hi : F n = Jvm.ClassFile.Reader.u1 >>= fun a => Jvm.ClassFile.Reader.s1 >>= fun b => Pure.pure (.iinc a b)) (h : (dz_m (c.data.toList.drop pc) [n, a, b] && decide (Jvm.ClassFile.Reader.signed 8 b = v)) = true) : decode c pc = .ok (.iinc a v, 3) := by
  rw [Bool.and_eq_true] at h
  have e := of_decide_eq_true h.2
  refine dz_e (dz_d (q := pc + 1 + 1 + 1) hF (dz_u h.1).1 ?_) (by omega)
  rw [hi, dz_b (dz_u (dz_u h.1).2).1, dz_b (dz_s1 (dz_u (dz_u h.1).2).2), e]; rfl
theorem dk_0 {c : ByteArray} {pc : Nat} (h : dz_m (c.data.toList.drop pc) [0] = true) : decode c pc = .ok (.nop, 1) := dz_0 (n := 0) rfl rfl h
theorem dk_1 {c : ByteArray} {pc : Nat} (h : dz_m (c.data.toList.drop pc) [1] = true) : decode c pc = .ok (.aconst_null, 1) := dz_0 (n := 1) rfl rfl h
theorem dk_2 {c : ByteArray} {pc : Nat} (h : dz_m (c.data.toList.drop pc) [2] = true) : decode c pc = .ok (.iconst (-1), 1) := dz_0 (n := 2) rfl rfl h
theorem dk_46 {c : ByteArray} {pc : Nat} (h : dz_m (c.data.toList.drop pc) [46] = true) : decode c pc = .ok (.iaload, 1) := dz_0 (n := 46) rfl rfl h
theorem dk_47 {c : ByteArray} {pc : Nat} (h : dz_m (c.data.toList.drop pc) [47] = true) : decode c pc = .ok (.laload, 1) := dz_0 (n := 47) rfl rfl h
theorem dk_50 {c : ByteArray} {pc : Nat} (h : dz_m (c.data.toList.drop pc) [50] = true) : decode c pc = .ok (.aaload, 1) := dz_0 (n := 50) rfl rfl h
theorem dk_51 {c : ByteArray} {pc : Nat} (h : dz_m (c.data.toList.drop pc) [51] = true) : decode c pc = .ok (.baload, 1) := dz_0 (n := 51) rfl rfl h
theorem dk_52 {c : ByteArray} {pc : Nat} (h : dz_m (c.data.toList.drop pc) [52] = true) : decode c pc = .ok (.caload, 1) := dz_0 (n := 52) rfl rfl h
theorem dk_53 {c : ByteArray} {pc : Nat} (h : dz_m (c.data.toList.drop pc) [53] = true) : decode c pc = .ok (.saload, 1) := dz_0 (n := 53) rfl rfl h
theorem dk_79 {c : ByteArray} {pc : Nat} (h : dz_m (c.data.toList.drop pc) [79] = true) : decode c pc = .ok (.iastore, 1) := dz_0 (n := 79) rfl rfl h
theorem dk_80 {c : ByteArray} {pc : Nat} (h : dz_m (c.data.toList.drop pc) [80] = true) : decode c pc = .ok (.lastore, 1) := dz_0 (n := 80) rfl rfl h
theorem dk_83 {c : ByteArray} {pc : Nat} (h : dz_m (c.data.toList.drop pc) [83] = true) : decode c pc = .ok (.aastore, 1) := dz_0 (n := 83) rfl rfl h
theorem dk_84 {c : ByteArray} {pc : Nat} (h : dz_m (c.data.toList.drop pc) [84] = true) : decode c pc = .ok (.bastore, 1) := dz_0 (n := 84) rfl rfl h
theorem dk_85 {c : ByteArray} {pc : Nat} (h : dz_m (c.data.toList.drop pc) [85] = true) : decode c pc = .ok (.castore, 1) := dz_0 (n := 85) rfl rfl h
theorem dk_86 {c : ByteArray} {pc : Nat} (h : dz_m (c.data.toList.drop pc) [86] = true) : decode c pc = .ok (.sastore, 1) := dz_0 (n := 86) rfl rfl h
theorem dk_87 {c : ByteArray} {pc : Nat} (h : dz_m (c.data.toList.drop pc) [87] = true) : decode c pc = .ok (.pop, 1) := dz_0 (n := 87) rfl rfl h
theorem dk_88 {c : ByteArray} {pc : Nat} (h : dz_m (c.data.toList.drop pc) [88] = true) : decode c pc = .ok (.pop2, 1) := dz_0 (n := 88) rfl rfl h
theorem dk_89 {c : ByteArray} {pc : Nat} (h : dz_m (c.data.toList.drop pc) [89] = true) : decode c pc = .ok (.dup, 1) := dz_0 (n := 89) rfl rfl h
theorem dk_90 {c : ByteArray} {pc : Nat} (h : dz_m (c.data.toList.drop pc) [90] = true) : decode c pc = .ok (.dup_x1, 1) := dz_0 (n := 90) rfl rfl h
theorem dk_91 {c : ByteArray} {pc : Nat} (h : dz_m (c.data.toList.drop pc) [91] = true) : decode c pc = .ok (.dup_x2, 1) := dz_0 (n := 91) rfl rfl h
theorem dk_92 {c : ByteArray} {pc : Nat} (h : dz_m (c.data.toList.drop pc) [92] = true) : decode c pc = .ok (.dup2, 1) := dz_0 (n := 92) rfl rfl h
theorem dk_96 {c : ByteArray} {pc : Nat} (h : dz_m (c.data.toList.drop pc) [96] = true) : decode c pc = .ok (.iadd, 1) := dz_0 (n := 96) rfl rfl h
theorem dk_97 {c : ByteArray} {pc : Nat} (h : dz_m (c.data.toList.drop pc) [97] = true) : decode c pc = .ok (.ladd, 1) := dz_0 (n := 97) rfl rfl h
theorem dk_100 {c : ByteArray} {pc : Nat} (h : dz_m (c.data.toList.drop pc) [100] = true) : decode c pc = .ok (.isub, 1) := dz_0 (n := 100) rfl rfl h
theorem dk_101 {c : ByteArray} {pc : Nat} (h : dz_m (c.data.toList.drop pc) [101] = true) : decode c pc = .ok (.lsub, 1) := dz_0 (n := 101) rfl rfl h
theorem dk_104 {c : ByteArray} {pc : Nat} (h : dz_m (c.data.toList.drop pc) [104] = true) : decode c pc = .ok (.imul, 1) := dz_0 (n := 104) rfl rfl h
theorem dk_105 {c : ByteArray} {pc : Nat} (h : dz_m (c.data.toList.drop pc) [105] = true) : decode c pc = .ok (.lmul, 1) := dz_0 (n := 105) rfl rfl h
theorem dk_108 {c : ByteArray} {pc : Nat} (h : dz_m (c.data.toList.drop pc) [108] = true) : decode c pc = .ok (.idiv, 1) := dz_0 (n := 108) rfl rfl h
theorem dk_109 {c : ByteArray} {pc : Nat} (h : dz_m (c.data.toList.drop pc) [109] = true) : decode c pc = .ok (.ldiv, 1) := dz_0 (n := 109) rfl rfl h
theorem dk_112 {c : ByteArray} {pc : Nat} (h : dz_m (c.data.toList.drop pc) [112] = true) : decode c pc = .ok (.irem, 1) := dz_0 (n := 112) rfl rfl h
theorem dk_113 {c : ByteArray} {pc : Nat} (h : dz_m (c.data.toList.drop pc) [113] = true) : decode c pc = .ok (.lrem, 1) := dz_0 (n := 113) rfl rfl h
theorem dk_116 {c : ByteArray} {pc : Nat} (h : dz_m (c.data.toList.drop pc) [116] = true) : decode c pc = .ok (.ineg, 1) := dz_0 (n := 116) rfl rfl h
theorem dk_117 {c : ByteArray} {pc : Nat} (h : dz_m (c.data.toList.drop pc) [117] = true) : decode c pc = .ok (.lneg, 1) := dz_0 (n := 117) rfl rfl h
theorem dk_120 {c : ByteArray} {pc : Nat} (h : dz_m (c.data.toList.drop pc) [120] = true) : decode c pc = .ok (.ishl, 1) := dz_0 (n := 120) rfl rfl h
theorem dk_121 {c : ByteArray} {pc : Nat} (h : dz_m (c.data.toList.drop pc) [121] = true) : decode c pc = .ok (.lshl, 1) := dz_0 (n := 121) rfl rfl h
theorem dk_122 {c : ByteArray} {pc : Nat} (h : dz_m (c.data.toList.drop pc) [122] = true) : decode c pc = .ok (.ishr, 1) := dz_0 (n := 122) rfl rfl h
theorem dk_123 {c : ByteArray} {pc : Nat} (h : dz_m (c.data.toList.drop pc) [123] = true) : decode c pc = .ok (.lshr, 1) := dz_0 (n := 123) rfl rfl h
theorem dk_124 {c : ByteArray} {pc : Nat} (h : dz_m (c.data.toList.drop pc) [124] = true) : decode c pc = .ok (.iushr, 1) := dz_0 (n := 124) rfl rfl h
theorem dk_125 {c : ByteArray} {pc : Nat} (h : dz_m (c.data.toList.drop pc) [125] = true) : decode c pc = .ok (.lushr, 1) := dz_0 (n := 125) rfl rfl h
theorem dk_126 {c : ByteArray} {pc : Nat} (h : dz_m (c.data.toList.drop pc) [126] = true) : decode c pc = .ok (.iand, 1) := dz_0 (n := 126) rfl rfl h
theorem dk_127 {c : ByteArray} {pc : Nat} (h : dz_m (c.data.toList.drop pc) [127] = true) : decode c pc = .ok (.land, 1) := dz_0 (n := 127) rfl rfl h
theorem dk_128 {c : ByteArray} {pc : Nat} (h : dz_m (c.data.toList.drop pc) [128] = true) : decode c pc = .ok (.ior, 1) := dz_0 (n := 128) rfl rfl h
theorem dk_129 {c : ByteArray} {pc : Nat} (h : dz_m (c.data.toList.drop pc) [129] = true) : decode c pc = .ok (.lor, 1) := dz_0 (n := 129) rfl rfl h
theorem dk_130 {c : ByteArray} {pc : Nat} (h : dz_m (c.data.toList.drop pc) [130] = true) : decode c pc = .ok (.ixor, 1) := dz_0 (n := 130) rfl rfl h
theorem dk_131 {c : ByteArray} {pc : Nat} (h : dz_m (c.data.toList.drop pc) [131] = true) : decode c pc = .ok (.lxor, 1) := dz_0 (n := 131) rfl rfl h
theorem dk_133 {c : ByteArray} {pc : Nat} (h : dz_m (c.data.toList.drop pc) [133] = true) : decode c pc = .ok (.i2l, 1) := dz_0 (n := 133) rfl rfl h
theorem dk_136 {c : ByteArray} {pc : Nat} (h : dz_m (c.data.toList.drop pc) [136] = true) : decode c pc = .ok (.l2i, 1) := dz_0 (n := 136) rfl rfl h
theorem dk_145 {c : ByteArray} {pc : Nat} (h : dz_m (c.data.toList.drop pc) [145] = true) : decode c pc = .ok (.i2b, 1) := dz_0 (n := 145) rfl rfl h
theorem dk_146 {c : ByteArray} {pc : Nat} (h : dz_m (c.data.toList.drop pc) [146] = true) : decode c pc = .ok (.i2c, 1) := dz_0 (n := 146) rfl rfl h
theorem dk_147 {c : ByteArray} {pc : Nat} (h : dz_m (c.data.toList.drop pc) [147] = true) : decode c pc = .ok (.i2s, 1) := dz_0 (n := 147) rfl rfl h
theorem dk_148 {c : ByteArray} {pc : Nat} (h : dz_m (c.data.toList.drop pc) [148] = true) : decode c pc = .ok (.lcmp, 1) := dz_0 (n := 148) rfl rfl h
theorem dk_172 {c : ByteArray} {pc : Nat} (h : dz_m (c.data.toList.drop pc) [172] = true) : decode c pc = .ok (.ireturn, 1) := dz_0 (n := 172) rfl rfl h
theorem dk_173 {c : ByteArray} {pc : Nat} (h : dz_m (c.data.toList.drop pc) [173] = true) : decode c pc = .ok (.lreturn, 1) := dz_0 (n := 173) rfl rfl h
theorem dk_176 {c : ByteArray} {pc : Nat} (h : dz_m (c.data.toList.drop pc) [176] = true) : decode c pc = .ok (.areturn, 1) := dz_0 (n := 176) rfl rfl h
theorem dk_177 {c : ByteArray} {pc : Nat} (h : dz_m (c.data.toList.drop pc) [177] = true) : decode c pc = .ok (.return_, 1) := dz_0 (n := 177) rfl rfl h
theorem dk_190 {c : ByteArray} {pc : Nat} (h : dz_m (c.data.toList.drop pc) [190] = true) : decode c pc = .ok (.arraylength, 1) := dz_0 (n := 190) rfl rfl h
theorem dk_3 {c : ByteArray} {pc : Nat} (h : dz_m (c.data.toList.drop pc) [3] = true) : decode c pc = .ok (.iconst 0, 1) := dz_0 (n := 3) rfl rfl h
theorem dk_4 {c : ByteArray} {pc : Nat} (h : dz_m (c.data.toList.drop pc) [4] = true) : decode c pc = .ok (.iconst 1, 1) := dz_0 (n := 4) rfl rfl h
theorem dk_5 {c : ByteArray} {pc : Nat} (h : dz_m (c.data.toList.drop pc) [5] = true) : decode c pc = .ok (.iconst 2, 1) := dz_0 (n := 5) rfl rfl h
theorem dk_6 {c : ByteArray} {pc : Nat} (h : dz_m (c.data.toList.drop pc) [6] = true) : decode c pc = .ok (.iconst 3, 1) := dz_0 (n := 6) rfl rfl h
theorem dk_7 {c : ByteArray} {pc : Nat} (h : dz_m (c.data.toList.drop pc) [7] = true) : decode c pc = .ok (.iconst 4, 1) := dz_0 (n := 7) rfl rfl h
theorem dk_8 {c : ByteArray} {pc : Nat} (h : dz_m (c.data.toList.drop pc) [8] = true) : decode c pc = .ok (.iconst 5, 1) := dz_0 (n := 8) rfl rfl h
theorem dk_9 {c : ByteArray} {pc : Nat} (h : dz_m (c.data.toList.drop pc) [9] = true) : decode c pc = .ok (.lconst 0, 1) := dz_0 (n := 9) rfl rfl h
theorem dk_10 {c : ByteArray} {pc : Nat} (h : dz_m (c.data.toList.drop pc) [10] = true) : decode c pc = .ok (.lconst 1, 1) := dz_0 (n := 10) rfl rfl h
theorem dk_26 {c : ByteArray} {pc : Nat} (h : dz_m (c.data.toList.drop pc) [26] = true) : decode c pc = .ok (.iload_n 0, 1) := dz_0 (n := 26) rfl rfl h
theorem dk_30 {c : ByteArray} {pc : Nat} (h : dz_m (c.data.toList.drop pc) [30] = true) : decode c pc = .ok (.lload_n 0, 1) := dz_0 (n := 30) rfl rfl h
theorem dk_42 {c : ByteArray} {pc : Nat} (h : dz_m (c.data.toList.drop pc) [42] = true) : decode c pc = .ok (.aload_n 0, 1) := dz_0 (n := 42) rfl rfl h
theorem dk_59 {c : ByteArray} {pc : Nat} (h : dz_m (c.data.toList.drop pc) [59] = true) : decode c pc = .ok (.istore_n 0, 1) := dz_0 (n := 59) rfl rfl h
theorem dk_63 {c : ByteArray} {pc : Nat} (h : dz_m (c.data.toList.drop pc) [63] = true) : decode c pc = .ok (.lstore_n 0, 1) := dz_0 (n := 63) rfl rfl h
theorem dk_75 {c : ByteArray} {pc : Nat} (h : dz_m (c.data.toList.drop pc) [75] = true) : decode c pc = .ok (.astore_n 0, 1) := dz_0 (n := 75) rfl rfl h
theorem dk_27 {c : ByteArray} {pc : Nat} (h : dz_m (c.data.toList.drop pc) [27] = true) : decode c pc = .ok (.iload_n 1, 1) := dz_0 (n := 27) rfl rfl h
theorem dk_31 {c : ByteArray} {pc : Nat} (h : dz_m (c.data.toList.drop pc) [31] = true) : decode c pc = .ok (.lload_n 1, 1) := dz_0 (n := 31) rfl rfl h
theorem dk_43 {c : ByteArray} {pc : Nat} (h : dz_m (c.data.toList.drop pc) [43] = true) : decode c pc = .ok (.aload_n 1, 1) := dz_0 (n := 43) rfl rfl h
theorem dk_60 {c : ByteArray} {pc : Nat} (h : dz_m (c.data.toList.drop pc) [60] = true) : decode c pc = .ok (.istore_n 1, 1) := dz_0 (n := 60) rfl rfl h
theorem dk_64 {c : ByteArray} {pc : Nat} (h : dz_m (c.data.toList.drop pc) [64] = true) : decode c pc = .ok (.lstore_n 1, 1) := dz_0 (n := 64) rfl rfl h
theorem dk_76 {c : ByteArray} {pc : Nat} (h : dz_m (c.data.toList.drop pc) [76] = true) : decode c pc = .ok (.astore_n 1, 1) := dz_0 (n := 76) rfl rfl h
theorem dk_28 {c : ByteArray} {pc : Nat} (h : dz_m (c.data.toList.drop pc) [28] = true) : decode c pc = .ok (.iload_n 2, 1) := dz_0 (n := 28) rfl rfl h
theorem dk_32 {c : ByteArray} {pc : Nat} (h : dz_m (c.data.toList.drop pc) [32] = true) : decode c pc = .ok (.lload_n 2, 1) := dz_0 (n := 32) rfl rfl h
theorem dk_44 {c : ByteArray} {pc : Nat} (h : dz_m (c.data.toList.drop pc) [44] = true) : decode c pc = .ok (.aload_n 2, 1) := dz_0 (n := 44) rfl rfl h
theorem dk_61 {c : ByteArray} {pc : Nat} (h : dz_m (c.data.toList.drop pc) [61] = true) : decode c pc = .ok (.istore_n 2, 1) := dz_0 (n := 61) rfl rfl h
theorem dk_65 {c : ByteArray} {pc : Nat} (h : dz_m (c.data.toList.drop pc) [65] = true) : decode c pc = .ok (.lstore_n 2, 1) := dz_0 (n := 65) rfl rfl h
theorem dk_77 {c : ByteArray} {pc : Nat} (h : dz_m (c.data.toList.drop pc) [77] = true) : decode c pc = .ok (.astore_n 2, 1) := dz_0 (n := 77) rfl rfl h
theorem dk_29 {c : ByteArray} {pc : Nat} (h : dz_m (c.data.toList.drop pc) [29] = true) : decode c pc = .ok (.iload_n 3, 1) := dz_0 (n := 29) rfl rfl h
theorem dk_33 {c : ByteArray} {pc : Nat} (h : dz_m (c.data.toList.drop pc) [33] = true) : decode c pc = .ok (.lload_n 3, 1) := dz_0 (n := 33) rfl rfl h
theorem dk_45 {c : ByteArray} {pc : Nat} (h : dz_m (c.data.toList.drop pc) [45] = true) : decode c pc = .ok (.aload_n 3, 1) := dz_0 (n := 45) rfl rfl h
theorem dk_62 {c : ByteArray} {pc : Nat} (h : dz_m (c.data.toList.drop pc) [62] = true) : decode c pc = .ok (.istore_n 3, 1) := dz_0 (n := 62) rfl rfl h
theorem dk_66 {c : ByteArray} {pc : Nat} (h : dz_m (c.data.toList.drop pc) [66] = true) : decode c pc = .ok (.lstore_n 3, 1) := dz_0 (n := 66) rfl rfl h
theorem dk_78 {c : ByteArray} {pc : Nat} (h : dz_m (c.data.toList.drop pc) [78] = true) : decode c pc = .ok (.astore_n 3, 1) := dz_0 (n := 78) rfl rfl h
theorem dk_18 {c : ByteArray} {pc v : Nat} (h : dz_m (c.data.toList.drop pc) [18, v] = true) : decode c pc = .ok (.ldc v, 2) := dz_1 (n := 18) (con := fun v => .ldc v) rfl rfl h
theorem dk_21 {c : ByteArray} {pc v : Nat} (h : dz_m (c.data.toList.drop pc) [21, v] = true) : decode c pc = .ok (.iload v, 2) := dz_1 (n := 21) (con := fun v => .iload v) rfl rfl h
theorem dk_22 {c : ByteArray} {pc v : Nat} (h : dz_m (c.data.toList.drop pc) [22, v] = true) : decode c pc = .ok (.lload v, 2) := dz_1 (n := 22) (con := fun v => .lload v) rfl rfl h
theorem dk_25 {c : ByteArray} {pc v : Nat} (h : dz_m (c.data.toList.drop pc) [25, v] = true) : decode c pc = .ok (.aload v, 2) := dz_1 (n := 25) (con := fun v => .aload v) rfl rfl h
theorem dk_54 {c : ByteArray} {pc v : Nat} (h : dz_m (c.data.toList.drop pc) [54, v] = true) : decode c pc = .ok (.istore v, 2) := dz_1 (n := 54) (con := fun v => .istore v) rfl rfl h
theorem dk_55 {c : ByteArray} {pc v : Nat} (h : dz_m (c.data.toList.drop pc) [55, v] = true) : decode c pc = .ok (.lstore v, 2) := dz_1 (n := 55) (con := fun v => .lstore v) rfl rfl h
theorem dk_58 {c : ByteArray} {pc v : Nat} (h : dz_m (c.data.toList.drop pc) [58, v] = true) : decode c pc = .ok (.astore v, 2) := dz_1 (n := 58) (con := fun v => .astore v) rfl rfl h
theorem dk_16 {c : ByteArray} {pc : Nat} {v : Int} (a : Nat) (h : (dz_m (c.data.toList.drop pc) [16, a] && decide (Jvm.ClassFile.Reader.signed 8 a = v)) = true) : decode c pc = .ok (.bipush v, 2) := dz_3 (n := 16) (con := fun v => .bipush v) rfl rfl h
theorem dk_19 {c : ByteArray} {pc v : Nat} (a b : Nat) (h : (dz_m (c.data.toList.drop pc) [19, a, b] && decide (a * 256 + b = v)) = true) : decode c pc = .ok (.ldc_w v, 3) := dz_4 (n := 19) (con := fun v => .ldc_w v) rfl rfl h
theorem dk_20 {c : ByteArray} {pc v : Nat} (a b : Nat) (h : (dz_m (c.data.toList.drop pc) [20, a, b] && decide (a * 256 + b = v)) = true) : decode c pc = .ok (.ldc2_w v, 3) := dz_4 (n := 20) (con := fun v => .ldc2_w v) rfl rfl h
theorem dk_178 {c : ByteArray} {pc v : Nat} (a b : Nat) (h : (dz_m (c.data.toList.drop pc) [178, a, b] && decide (a * 256 + b = v)) = true) : decode c pc = .ok (.getstatic v, 3) := dz_4 (n := 178) (con := fun v => .getstatic v) rfl rfl h
theorem dk_179 {c : ByteArray} {pc v : Nat} (a b : Nat) (h : (dz_m (c.data.toList.drop pc) [179, a, b] && decide (a * 256 + b = v)) = true) : decode c pc = .ok (.putstatic v, 3) := dz_4 (n := 179) (con := fun v => .putstatic v) rfl rfl h
theorem dk_180 {c : ByteArray} {pc v : Nat} (a b : Nat) (h : (dz_m (c.data.toList.drop pc) [180, a, b] && decide (a * 256 + b = v)) = true) : decode c pc = .ok (.getfield v, 3) := dz_4 (n := 180) (con := fun v => .getfield v) rfl rfl h
theorem dk_181 {c : ByteArray} {pc v : Nat} (a b : Nat) (h : (dz_m (c.data.toList.drop pc) [181, a, b] && decide (a * 256 + b = v)) = true) : decode c pc = .ok (.putfield v, 3) := dz_4 (n := 181) (con := fun v => .putfield v) rfl rfl h
theorem dk_182 {c : ByteArray} {pc v : Nat} (a b : Nat) (h : (dz_m (c.data.toList.drop pc) [182, a, b] && decide (a * 256 + b = v)) = true) : decode c pc = .ok (.invokevirtual v, 3) := dz_4 (n := 182) (con := fun v => .invokevirtual v) rfl rfl h
theorem dk_183 {c : ByteArray} {pc v : Nat} (a b : Nat) (h : (dz_m (c.data.toList.drop pc) [183, a, b] && decide (a * 256 + b = v)) = true) : decode c pc = .ok (.invokespecial v, 3) := dz_4 (n := 183) (con := fun v => .invokespecial v) rfl rfl h
theorem dk_184 {c : ByteArray} {pc v : Nat} (a b : Nat) (h : (dz_m (c.data.toList.drop pc) [184, a, b] && decide (a * 256 + b = v)) = true) : decode c pc = .ok (.invokestatic v, 3) := dz_4 (n := 184) (con := fun v => .invokestatic v) rfl rfl h
theorem dk_187 {c : ByteArray} {pc v : Nat} (a b : Nat) (h : (dz_m (c.data.toList.drop pc) [187, a, b] && decide (a * 256 + b = v)) = true) : decode c pc = .ok (.new v, 3) := dz_4 (n := 187) (con := fun v => .new v) rfl rfl h
theorem dk_189 {c : ByteArray} {pc v : Nat} (a b : Nat) (h : (dz_m (c.data.toList.drop pc) [189, a, b] && decide (a * 256 + b = v)) = true) : decode c pc = .ok (.anewarray v, 3) := dz_4 (n := 189) (con := fun v => .anewarray v) rfl rfl h
theorem dk_192 {c : ByteArray} {pc v : Nat} (a b : Nat) (h : (dz_m (c.data.toList.drop pc) [192, a, b] && decide (a * 256 + b = v)) = true) : decode c pc = .ok (.checkcast v, 3) := dz_4 (n := 192) (con := fun v => .checkcast v) rfl rfl h
theorem dk_17 {c : ByteArray} {pc : Nat} {v : Int} (a b : Nat) (h : (dz_m (c.data.toList.drop pc) [17, a, b] && decide (Jvm.ClassFile.Reader.signed 16 (a * 256 + b) = v)) = true) : decode c pc = .ok (.sipush v, 3) := dz_5 (n := 17) (con := fun v => .sipush v) rfl rfl h
theorem dk_167 {c : ByteArray} {pc : Nat} {v : Int} (a b : Nat) (h : (dz_m (c.data.toList.drop pc) [167, a, b] && decide (Jvm.ClassFile.Reader.signed 16 (a * 256 + b) = v)) = true) : decode c pc = .ok (.goto v, 3) := dz_5 (n := 167) (con := fun v => .goto v) rfl rfl h
theorem dk_153 {c : ByteArray} {pc : Nat} {v : Int} (a b : Nat) (h : (dz_m (c.data.toList.drop pc) [153, a, b] && decide (Jvm.ClassFile.Reader.signed 16 (a * 256 + b) = v)) = true) : decode c pc = .ok (.ifCond .eq v, 3) := dz_5 (n := 153) (con := fun v => .ifCond .eq v) rfl rfl h
theorem dk_159 {c : ByteArray} {pc : Nat} {v : Int} (a b : Nat) (h : (dz_m (c.data.toList.drop pc) [159, a, b] && decide (Jvm.ClassFile.Reader.signed 16 (a * 256 + b) = v)) = true) : decode c pc = .ok (.if_icmp .eq v, 3) := dz_5 (n := 159) (con := fun v => .if_icmp .eq v) rfl rfl h
theorem dk_154 {c : ByteArray} {pc : Nat} {v : Int} (a b : Nat) (h : (dz_m (c.data.toList.drop pc) [154, a, b] && decide (Jvm.ClassFile.Reader.signed 16 (a * 256 + b) = v)) = true) : decode c pc = .ok (.ifCond .ne v, 3) := dz_5 (n := 154) (con := fun v => .ifCond .ne v) rfl rfl h
theorem dk_160 {c : ByteArray} {pc : Nat} {v : Int} (a b : Nat) (h : (dz_m (c.data.toList.drop pc) [160, a, b] && decide (Jvm.ClassFile.Reader.signed 16 (a * 256 + b) = v)) = true) : decode c pc = .ok (.if_icmp .ne v, 3) := dz_5 (n := 160) (con := fun v => .if_icmp .ne v) rfl rfl h
theorem dk_155 {c : ByteArray} {pc : Nat} {v : Int} (a b : Nat) (h : (dz_m (c.data.toList.drop pc) [155, a, b] && decide (Jvm.ClassFile.Reader.signed 16 (a * 256 + b) = v)) = true) : decode c pc = .ok (.ifCond .lt v, 3) := dz_5 (n := 155) (con := fun v => .ifCond .lt v) rfl rfl h
theorem dk_161 {c : ByteArray} {pc : Nat} {v : Int} (a b : Nat) (h : (dz_m (c.data.toList.drop pc) [161, a, b] && decide (Jvm.ClassFile.Reader.signed 16 (a * 256 + b) = v)) = true) : decode c pc = .ok (.if_icmp .lt v, 3) := dz_5 (n := 161) (con := fun v => .if_icmp .lt v) rfl rfl h
theorem dk_156 {c : ByteArray} {pc : Nat} {v : Int} (a b : Nat) (h : (dz_m (c.data.toList.drop pc) [156, a, b] && decide (Jvm.ClassFile.Reader.signed 16 (a * 256 + b) = v)) = true) : decode c pc = .ok (.ifCond .ge v, 3) := dz_5 (n := 156) (con := fun v => .ifCond .ge v) rfl rfl h
theorem dk_162 {c : ByteArray} {pc : Nat} {v : Int} (a b : Nat) (h : (dz_m (c.data.toList.drop pc) [162, a, b] && decide (Jvm.ClassFile.Reader.signed 16 (a * 256 + b) = v)) = true) : decode c pc = .ok (.if_icmp .ge v, 3) := dz_5 (n := 162) (con := fun v => .if_icmp .ge v) rfl rfl h
theorem dk_157 {c : ByteArray} {pc : Nat} {v : Int} (a b : Nat) (h : (dz_m (c.data.toList.drop pc) [157, a, b] && decide (Jvm.ClassFile.Reader.signed 16 (a * 256 + b) = v)) = true) : decode c pc = .ok (.ifCond .gt v, 3) := dz_5 (n := 157) (con := fun v => .ifCond .gt v) rfl rfl h
theorem dk_163 {c : ByteArray} {pc : Nat} {v : Int} (a b : Nat) (h : (dz_m (c.data.toList.drop pc) [163, a, b] && decide (Jvm.ClassFile.Reader.signed 16 (a * 256 + b) = v)) = true) : decode c pc = .ok (.if_icmp .gt v, 3) := dz_5 (n := 163) (con := fun v => .if_icmp .gt v) rfl rfl h
theorem dk_158 {c : ByteArray} {pc : Nat} {v : Int} (a b : Nat) (h : (dz_m (c.data.toList.drop pc) [158, a, b] && decide (Jvm.ClassFile.Reader.signed 16 (a * 256 + b) = v)) = true) : decode c pc = .ok (.ifCond .le v, 3) := dz_5 (n := 158) (con := fun v => .ifCond .le v) rfl rfl h
theorem dk_164 {c : ByteArray} {pc : Nat} {v : Int} (a b : Nat) (h : (dz_m (c.data.toList.drop pc) [164, a, b] && decide (Jvm.ClassFile.Reader.signed 16 (a * 256 + b) = v)) = true) : decode c pc = .ok (.if_icmp .le v, 3) := dz_5 (n := 164) (con := fun v => .if_icmp .le v) rfl rfl h
theorem dk_132 {c : ByteArray} {pc a : Nat} {v : Int} (b : Nat) (h : (dz_m (c.data.toList.drop pc) [132, a, b] && decide (Jvm.ClassFile.Reader.signed 8 b = v)) = true) : decode c pc = .ok (.iinc a v, 3) := dz_6 (n := 132) rfl rfl h
