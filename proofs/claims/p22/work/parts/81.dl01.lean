-- DECODING BY SHAPE: a byte is looked up in a list, an opcode is decoded once
theorem u1_run {A : ByteArray} {p : Nat} {b : UInt8} (h : A.data.toList[p]? = some b) : (ClassFile.Reader.u1 : ClassFile.Decoder Nat) A p = .ok (b.toNat, p + 1) := by
  rw [Array.getElem?_toList] at h
  obtain ⟨hlt, he⟩ := Array.getElem?_eq_some_iff.mp h
  have hlt' : p < A.size := hlt
  have he' : A[p] = b := he
  show ((if h : p < A.size then (set (p + 1) >>= fun _ => Pure.pure A[p].toNat) else throw (ClassFile.HasTruncated.truncated p)) : ClassFile.Decoder Nat) A p = _
  rw [dif_pos hlt', he']
  rfl
theorem bind_ok {α β : Type} {m : ClassFile.Decoder α} {f : α → ClassFile.Decoder β} {A : ByteArray} {p q : Nat} {a : α} {r : Except ClassFile.DecodeError (β × Nat)} (h : m A p = .ok (a, q)) (hr : f a A q = r) : (m >>= f) A p = r := by
  show Except.bind (m A p) (fun x => f x.1 A x.2) = r
  rw [h]
  exact hr
theorem map_ok {α β : Type} {m : ClassFile.Decoder α} {f : α → β} {A : ByteArray} {p q : Nat} {a : α} {z : β} (h : m A p = .ok (a, q)) (hz : f a = z) : (f <$> m) A p = .ok (z, q) := by
  subst hz
  show Except.bind (m A p) (fun x => Except.ok (f x.1, x.2)) = _
  rw [h]
  rfl
theorem dec_run {A : ByteArray} {p q : Nat} {i : Instr} (h : ClassFile.Decoder.instr p A p = .ok (i, q)) : decode A p = .ok (i, q - p) := by
  show Except.bind (ClassFile.Decoder.instr p A p) (fun x => Except.ok (x.1, x.2 - p)) = _
  rw [h]
  rfl
theorem dec_n {A : ByteArray} {p n : Nat} {i : Instr} (hi : ClassFile.Decoder.instr p A p = .ok (i, p + n)) : decode A p = .ok (i, n) := by
  rw [dec_run hi, Nat.add_sub_cancel_left]
theorem u2_run {A : ByteArray} {p n : Nat} {x y : UInt8} (h1 : A.data.toList[p]? = some x) (h2 : A.data.toList[p + 1]? = some y) (hn : x.toNat * 256 + y.toNat = n) : (ClassFile.Reader.u2 : ClassFile.Decoder Nat) A p = .ok (n, p + 2) := by
  subst hn
  exact bind_ok (u1_run h1) (bind_ok (u1_run h2) rfl)
theorem s2_run {A : ByteArray} {p n : Nat} {z : Int} {x y : UInt8} (h1 : A.data.toList[p]? = some x) (h2 : A.data.toList[p + 1]? = some y) (hn : x.toNat * 256 + y.toNat = n) (hz : ClassFile.Reader.signed 16 n = z) : (ClassFile.Reader.s2 : ClassFile.Decoder Int) A p = .ok (z, p + 2) := map_ok (u2_run h1 h2 hn) hz
theorem s1_run {A : ByteArray} {p : Nat} {z : Int} {x : UInt8} (h1 : A.data.toList[p]? = some x) (hz : ClassFile.Reader.signed 8 x.toNat = z) : (ClassFile.Reader.s1 : ClassFile.Decoder Int) A p = .ok (z, p + 1) := map_ok (u1_run h1) hz
set_option maxRecDepth 100000 in
theorem sh_bb {A : ByteArray} {p : Nat} {n : Nat} {x y : UInt8} (h : A.data.toList[p]? = some 0xbb) (h1 : A.data.toList[p + 1]? = some x) (h2 : A.data.toList[p + 2]? = some y) (hn : x.toNat * 256 + y.toNat = n) : decode A p = .ok (.new n, 3) := dec_n (bind_ok (u1_run h) (bind_ok (u2_run h1 h2 hn) rfl))
set_option maxRecDepth 100000 in
theorem sh_59 {A : ByteArray} {p : Nat} (h : A.data.toList[p]? = some 0x59) : decode A p = .ok (.dup, 1) := dec_n (bind_ok (u1_run h) rfl)
set_option maxRecDepth 100000 in
theorem sh_b7 {A : ByteArray} {p : Nat} {n : Nat} {x y : UInt8} (h : A.data.toList[p]? = some 0xb7) (h1 : A.data.toList[p + 1]? = some x) (h2 : A.data.toList[p + 2]? = some y) (hn : x.toNat * 256 + y.toNat = n) : decode A p = .ok (.invokespecial n, 3) := dec_n (bind_ok (u1_run h) (bind_ok (u2_run h1 h2 hn) rfl))
set_option maxRecDepth 100000 in
theorem sh_4c {A : ByteArray} {p : Nat} (h : A.data.toList[p]? = some 0x4c) : decode A p = .ok (.astore_n 1, 1) := dec_n (bind_ok (u1_run h) rfl)
set_option maxRecDepth 100000 in
theorem sh_4d {A : ByteArray} {p : Nat} (h : A.data.toList[p]? = some 0x4d) : decode A p = .ok (.astore_n 2, 1) := dec_n (bind_ok (u1_run h) rfl)
set_option maxRecDepth 100000 in
theorem sh_4e {A : ByteArray} {p : Nat} (h : A.data.toList[p]? = some 0x4e) : decode A p = .ok (.astore_n 3, 1) := dec_n (bind_ok (u1_run h) rfl)
set_option maxRecDepth 100000 in
theorem sh_03 {A : ByteArray} {p : Nat} (h : A.data.toList[p]? = some 0x03) : decode A p = .ok (.iconst 0, 1) := dec_n (bind_ok (u1_run h) rfl)
set_option maxRecDepth 100000 in
theorem sh_36 {A : ByteArray} {p : Nat} {n : Nat} {x : UInt8} (h : A.data.toList[p]? = some 0x36) (h1 : A.data.toList[p + 1]? = some x) (hn : x.toNat = n) : decode A p = .ok (.istore n, 2) := by
  subst hn
  exact dec_n (bind_ok (u1_run h) (bind_ok (u1_run h1) rfl))
set_option maxRecDepth 100000 in
theorem sh_15 {A : ByteArray} {p : Nat} {n : Nat} {x : UInt8} (h : A.data.toList[p]? = some 0x15) (h1 : A.data.toList[p + 1]? = some x) (hn : x.toNat = n) : decode A p = .ok (.iload n, 2) := by
  subst hn
  exact dec_n (bind_ok (u1_run h) (bind_ok (u1_run h1) rfl))
set_option maxRecDepth 100000 in
theorem sh_2a {A : ByteArray} {p : Nat} (h : A.data.toList[p]? = some 0x2a) : decode A p = .ok (.aload_n 0, 1) := dec_n (bind_ok (u1_run h) rfl)
set_option maxRecDepth 100000 in
theorem sh_be {A : ByteArray} {p : Nat} (h : A.data.toList[p]? = some 0xbe) : decode A p = .ok (.arraylength, 1) := dec_n (bind_ok (u1_run h) rfl)
set_option maxRecDepth 100000 in
theorem sh_08 {A : ByteArray} {p : Nat} (h : A.data.toList[p]? = some 0x08) : decode A p = .ok (.iconst 5, 1) := dec_n (bind_ok (u1_run h) rfl)
set_option maxRecDepth 100000 in
theorem sh_64 {A : ByteArray} {p : Nat} (h : A.data.toList[p]? = some 0x64) : decode A p = .ok (.isub, 1) := dec_n (bind_ok (u1_run h) rfl)
set_option maxRecDepth 100000 in
theorem sh_a3 {A : ByteArray} {p : Nat} {n : Nat} {z : Int} {x y : UInt8} (h : A.data.toList[p]? = some 0xa3) (h1 : A.data.toList[p + 1]? = some x) (h2 : A.data.toList[p + 2]? = some y) (hn : x.toNat * 256 + y.toNat = n) (hz : ClassFile.Reader.signed 16 n = z) : decode A p = .ok (.if_icmp .gt z, 3) := dec_n (bind_ok (u1_run h) (bind_ok (s2_run h1 h2 hn hz) rfl))
set_option maxRecDepth 100000 in
theorem sh_2e {A : ByteArray} {p : Nat} (h : A.data.toList[p]? = some 0x2e) : decode A p = .ok (.iaload, 1) := dec_n (bind_ok (u1_run h) rfl)
set_option maxRecDepth 100000 in
theorem sh_10 {A : ByteArray} {p : Nat} {z : Int} {x : UInt8} (h : A.data.toList[p]? = some 0x10) (h1 : A.data.toList[p + 1]? = some x) (hz : ClassFile.Reader.signed 8 x.toNat = z) : decode A p = .ok (.bipush z, 2) := dec_n (bind_ok (u1_run h) (bind_ok (s1_run h1 hz) rfl))
set_option maxRecDepth 100000 in
theorem sh_7e {A : ByteArray} {p : Nat} (h : A.data.toList[p]? = some 0x7e) : decode A p = .ok (.iand, 1) := dec_n (bind_ok (u1_run h) rfl)
set_option maxRecDepth 100000 in
theorem sh_2b {A : ByteArray} {p : Nat} (h : A.data.toList[p]? = some 0x2b) : decode A p = .ok (.aload_n 1, 1) := dec_n (bind_ok (u1_run h) rfl)
set_option maxRecDepth 100000 in
theorem sh_04 {A : ByteArray} {p : Nat} (h : A.data.toList[p]? = some 0x04) : decode A p = .ok (.iconst 1, 1) := dec_n (bind_ok (u1_run h) rfl)
set_option maxRecDepth 100000 in
theorem sh_60 {A : ByteArray} {p : Nat} (h : A.data.toList[p]? = some 0x60) : decode A p = .ok (.iadd, 1) := dec_n (bind_ok (u1_run h) rfl)
set_option maxRecDepth 100000 in
theorem sh_05 {A : ByteArray} {p : Nat} (h : A.data.toList[p]? = some 0x05) : decode A p = .ok (.iconst 2, 1) := dec_n (bind_ok (u1_run h) rfl)
set_option maxRecDepth 100000 in
theorem sh_06 {A : ByteArray} {p : Nat} (h : A.data.toList[p]? = some 0x06) : decode A p = .ok (.iconst 3, 1) := dec_n (bind_ok (u1_run h) rfl)
set_option maxRecDepth 100000 in
theorem sh_2d {A : ByteArray} {p : Nat} (h : A.data.toList[p]? = some 0x2d) : decode A p = .ok (.aload_n 3, 1) := dec_n (bind_ok (u1_run h) rfl)
set_option maxRecDepth 100000 in
theorem sh_b8 {A : ByteArray} {p : Nat} {n : Nat} {x y : UInt8} (h : A.data.toList[p]? = some 0xb8) (h1 : A.data.toList[p + 1]? = some x) (h2 : A.data.toList[p + 2]? = some y) (hn : x.toNat * 256 + y.toNat = n) : decode A p = .ok (.invokestatic n, 3) := dec_n (bind_ok (u1_run h) (bind_ok (u2_run h1 h2 hn) rfl))
set_option maxRecDepth 100000 in
theorem sh_2c {A : ByteArray} {p : Nat} (h : A.data.toList[p]? = some 0x2c) : decode A p = .ok (.aload_n 2, 1) := dec_n (bind_ok (u1_run h) rfl)
set_option maxRecDepth 100000 in
theorem sh_b6 {A : ByteArray} {p : Nat} {n : Nat} {x y : UInt8} (h : A.data.toList[p]? = some 0xb6) (h1 : A.data.toList[p + 1]? = some x) (h2 : A.data.toList[p + 2]? = some y) (hn : x.toNat * 256 + y.toNat = n) : decode A p = .ok (.invokevirtual n, 3) := dec_n (bind_ok (u1_run h) (bind_ok (u2_run h1 h2 hn) rfl))
set_option maxRecDepth 100000 in
theorem sh_a7 {A : ByteArray} {p : Nat} {n : Nat} {z : Int} {x y : UInt8} (h : A.data.toList[p]? = some 0xa7) (h1 : A.data.toList[p + 1]? = some x) (h2 : A.data.toList[p + 2]? = some y) (hn : x.toNat * 256 + y.toNat = n) (hz : ClassFile.Reader.signed 16 n = z) : decode A p = .ok (.goto z, 3) := dec_n (bind_ok (u1_run h) (bind_ok (s2_run h1 h2 hn hz) rfl))
set_option maxRecDepth 100000 in
theorem sh_99 {A : ByteArray} {p : Nat} {n : Nat} {z : Int} {x y : UInt8} (h : A.data.toList[p]? = some 0x99) (h1 : A.data.toList[p + 1]? = some x) (h2 : A.data.toList[p + 2]? = some y) (hn : x.toNat * 256 + y.toNat = n) (hz : ClassFile.Reader.signed 16 n = z) : decode A p = .ok (.ifCond .eq z, 3) := dec_n (bind_ok (u1_run h) (bind_ok (s2_run h1 h2 hn hz) rfl))
set_option maxRecDepth 100000 in
theorem sh_57 {A : ByteArray} {p : Nat} (h : A.data.toList[p]? = some 0x57) : decode A p = .ok (.pop, 1) := dec_n (bind_ok (u1_run h) rfl)
set_option maxRecDepth 100000 in
theorem sh_07 {A : ByteArray} {p : Nat} (h : A.data.toList[p]? = some 0x07) : decode A p = .ok (.iconst 4, 1) := dec_n (bind_ok (u1_run h) rfl)
set_option maxRecDepth 100000 in
theorem sh_9f {A : ByteArray} {p : Nat} {n : Nat} {z : Int} {x y : UInt8} (h : A.data.toList[p]? = some 0x9f) (h1 : A.data.toList[p + 1]? = some x) (h2 : A.data.toList[p + 2]? = some y) (hn : x.toNat * 256 + y.toNat = n) (hz : ClassFile.Reader.signed 16 n = z) : decode A p = .ok (.if_icmp .eq z, 3) := dec_n (bind_ok (u1_run h) (bind_ok (s2_run h1 h2 hn hz) rfl))
set_option maxRecDepth 100000 in
theorem sh_ac {A : ByteArray} {p : Nat} (h : A.data.toList[p]? = some 0xac) : decode A p = .ok (.ireturn, 1) := dec_n (bind_ok (u1_run h) rfl)
set_option maxRecDepth 100000 in
theorem sh_9a {A : ByteArray} {p : Nat} {n : Nat} {z : Int} {x y : UInt8} (h : A.data.toList[p]? = some 0x9a) (h1 : A.data.toList[p + 1]? = some x) (h2 : A.data.toList[p + 2]? = some y) (hn : x.toNat * 256 + y.toNat = n) (hz : ClassFile.Reader.signed 16 n = z) : decode A p = .ok (.ifCond .ne z, 3) := dec_n (bind_ok (u1_run h) (bind_ok (s2_run h1 h2 hn hz) rfl))
set_option maxRecDepth 100000 in
theorem sh_b4 {A : ByteArray} {p : Nat} {n : Nat} {x y : UInt8} (h : A.data.toList[p]? = some 0xb4) (h1 : A.data.toList[p + 1]? = some x) (h2 : A.data.toList[p + 2]? = some y) (hn : x.toNat * 256 + y.toNat = n) : decode A p = .ok (.getfield n, 3) := dec_n (bind_ok (u1_run h) (bind_ok (u2_run h1 h2 hn) rfl))
set_option maxRecDepth 100000 in
theorem sh_85 {A : ByteArray} {p : Nat} (h : A.data.toList[p]? = some 0x85) : decode A p = .ok (.i2l, 1) := dec_n (bind_ok (u1_run h) rfl)
set_option maxRecDepth 100000 in
theorem sh_94 {A : ByteArray} {p : Nat} (h : A.data.toList[p]? = some 0x94) : decode A p = .ok (.lcmp, 1) := dec_n (bind_ok (u1_run h) rfl)
set_option maxRecDepth 100000 in
theorem sh_3a {A : ByteArray} {p : Nat} {n : Nat} {x : UInt8} (h : A.data.toList[p]? = some 0x3a) (h1 : A.data.toList[p + 1]? = some x) (hn : x.toNat = n) : decode A p = .ok (.astore n, 2) := by
  subst hn
  exact dec_n (bind_ok (u1_run h) (bind_ok (u1_run h1) rfl))
set_option maxRecDepth 100000 in
theorem sh_58 {A : ByteArray} {p : Nat} (h : A.data.toList[p]? = some 0x58) : decode A p = .ok (.pop2, 1) := dec_n (bind_ok (u1_run h) rfl)
set_option maxRecDepth 100000 in
theorem sh_84 {A : ByteArray} {p : Nat} {n : Nat} {z : Int} {x y : UInt8} (h : A.data.toList[p]? = some 0x84) (h1 : A.data.toList[p + 1]? = some x) (h2 : A.data.toList[p + 2]? = some y) (hn : x.toNat = n) (hz : ClassFile.Reader.signed 8 y.toNat = z) : decode A p = .ok (.iinc n z, 3) := by
  subst hn
  exact dec_n (bind_ok (u1_run h) (bind_ok (u1_run h1) (bind_ok (s1_run h2 hz) rfl)))
theorem dL_law_0 : decode cL_law 0 = .ok (.new 8, 3) := sh_bb (show cL_law.data.toList[0]? = some 0xbb by decide +kernel) (show cL_law.data.toList[1]? = some 0x00 by decide +kernel) (show cL_law.data.toList[2]? = some 0x08 by decide +kernel) rfl
theorem dL_law_3 : decode cL_law 3 = .ok (.dup, 1) := sh_59 (show cL_law.data.toList[3]? = some 0x59 by decide +kernel)
theorem dL_law_4 : decode cL_law 4 = .ok (.invokespecial 107, 3) := sh_b7 (show cL_law.data.toList[4]? = some 0xb7 by decide +kernel) (show cL_law.data.toList[5]? = some 0x00 by decide +kernel) (show cL_law.data.toList[6]? = some 0x6b by decide +kernel) rfl
theorem dL_law_7 : decode cL_law 7 = .ok (.astore_n 1, 1) := sh_4c (show cL_law.data.toList[7]? = some 0x4c by decide +kernel)
theorem dL_law_8 : decode cL_law 8 = .ok (.new 108, 3) := sh_bb (show cL_law.data.toList[8]? = some 0xbb by decide +kernel) (show cL_law.data.toList[9]? = some 0x00 by decide +kernel) (show cL_law.data.toList[10]? = some 0x6c by decide +kernel) rfl
theorem dL_law_11 : decode cL_law 11 = .ok (.dup, 1) := sh_59 (show cL_law.data.toList[11]? = some 0x59 by decide +kernel)
theorem dL_law_12 : decode cL_law 12 = .ok (.invokespecial 110, 3) := sh_b7 (show cL_law.data.toList[12]? = some 0xb7 by decide +kernel) (show cL_law.data.toList[13]? = some 0x00 by decide +kernel) (show cL_law.data.toList[14]? = some 0x6e by decide +kernel) rfl
theorem dL_law_15 : decode cL_law 15 = .ok (.astore_n 2, 1) := sh_4d (show cL_law.data.toList[15]? = some 0x4d by decide +kernel)
theorem dL_law_16 : decode cL_law 16 = .ok (.new 14, 3) := sh_bb (show cL_law.data.toList[16]? = some 0xbb by decide +kernel) (show cL_law.data.toList[17]? = some 0x00 by decide +kernel) (show cL_law.data.toList[18]? = some 0x0e by decide +kernel) rfl
theorem dL_law_19 : decode cL_law 19 = .ok (.dup, 1) := sh_59 (show cL_law.data.toList[19]? = some 0x59 by decide +kernel)
theorem dL_law_20 : decode cL_law 20 = .ok (.invokespecial 111, 3) := sh_b7 (show cL_law.data.toList[20]? = some 0xb7 by decide +kernel) (show cL_law.data.toList[21]? = some 0x00 by decide +kernel) (show cL_law.data.toList[22]? = some 0x6f by decide +kernel) rfl
theorem dL_law_23 : decode cL_law 23 = .ok (.astore_n 3, 1) := sh_4e (show cL_law.data.toList[23]? = some 0x4e by decide +kernel)
theorem dL_law_24 : decode cL_law 24 = .ok (.iconst 0, 1) := sh_03 (show cL_law.data.toList[24]? = some 0x03 by decide +kernel)
theorem dL_law_25 : decode cL_law 25 = .ok (.istore 4, 2) := sh_36 (show cL_law.data.toList[25]? = some 0x36 by decide +kernel) (show cL_law.data.toList[26]? = some 0x04 by decide +kernel) rfl
theorem dL_law_27 : decode cL_law 27 = .ok (.iload 4, 2) := sh_15 (show cL_law.data.toList[27]? = some 0x15 by decide +kernel) (show cL_law.data.toList[28]? = some 0x04 by decide +kernel) rfl
theorem dL_law_29 : decode cL_law 29 = .ok (.aload_n 0, 1) := sh_2a (show cL_law.data.toList[29]? = some 0x2a by decide +kernel)
theorem dL_law_30 : decode cL_law 30 = .ok (.arraylength, 1) := sh_be (show cL_law.data.toList[30]? = some 0xbe by decide +kernel)
theorem dL_law_31 : decode cL_law 31 = .ok (.iconst 5, 1) := sh_08 (show cL_law.data.toList[31]? = some 0x08 by decide +kernel)
theorem dL_law_32 : decode cL_law 32 = .ok (.isub, 1) := sh_64 (show cL_law.data.toList[32]? = some 0x64 by decide +kernel)
theorem dL_law_33 : decode cL_law 33 = .ok (.if_icmp .gt 1511, 3) := sh_a3 (n := 1511) (show cL_law.data.toList[33]? = some 0xa3 by decide +kernel) (show cL_law.data.toList[34]? = some 0x05 by decide +kernel) (show cL_law.data.toList[35]? = some 0xe7 by decide +kernel) rfl (by decide)
theorem dL_law_36 : decode cL_law 36 = .ok (.aload_n 0, 1) := sh_2a (show cL_law.data.toList[36]? = some 0x2a by decide +kernel)
theorem dL_law_37 : decode cL_law 37 = .ok (.iload 4, 2) := sh_15 (show cL_law.data.toList[37]? = some 0x15 by decide +kernel) (show cL_law.data.toList[38]? = some 0x04 by decide +kernel) rfl
theorem dL_law_39 : decode cL_law 39 = .ok (.iaload, 1) := sh_2e (show cL_law.data.toList[39]? = some 0x2e by decide +kernel)
theorem dL_law_40 : decode cL_law 40 = .ok (.bipush 31, 2) := sh_10 (show cL_law.data.toList[40]? = some 0x10 by decide +kernel) (show cL_law.data.toList[41]? = some 0x1f by decide +kernel) (by decide)
theorem dL_law_42 : decode cL_law 42 = .ok (.iand, 1) := sh_7e (show cL_law.data.toList[42]? = some 0x7e by decide +kernel)
theorem dL_law_43 : decode cL_law 43 = .ok (.tableswitch 1495 0 27 #[125, 177, 217, 273, 289, 302, 354, 406, 474, 542, 610, 678, 762, 846, 926, 939, 967, 995, 1063, 1159, 1172, 1241, 1269, 1309, 1377, 1429, 1469, 1482], 125) := by decide +kernel
theorem dL_law_168 : decode cL_law 168 = .ok (.aload_n 1, 1) := sh_2b (show cL_law.data.toList[168]? = some 0x2b by decide +kernel)
theorem dL_law_169 : decode cL_law 169 = .ok (.aload_n 0, 1) := sh_2a (show cL_law.data.toList[169]? = some 0x2a by decide +kernel)
theorem dL_law_170 : decode cL_law 170 = .ok (.iload 4, 2) := sh_15 (show cL_law.data.toList[170]? = some 0x15 by decide +kernel) (show cL_law.data.toList[171]? = some 0x04 by decide +kernel) rfl
theorem dL_law_172 : decode cL_law 172 = .ok (.iconst 1, 1) := sh_04 (show cL_law.data.toList[172]? = some 0x04 by decide +kernel)
theorem dL_law_173 : decode cL_law 173 = .ok (.iadd, 1) := sh_60 (show cL_law.data.toList[173]? = some 0x60 by decide +kernel)
theorem dL_law_174 : decode cL_law 174 = .ok (.iaload, 1) := sh_2e (show cL_law.data.toList[174]? = some 0x2e by decide +kernel)
theorem dL_law_175 : decode cL_law 175 = .ok (.aload_n 0, 1) := sh_2a (show cL_law.data.toList[175]? = some 0x2a by decide +kernel)
theorem dL_law_176 : decode cL_law 176 = .ok (.iload 4, 2) := sh_15 (show cL_law.data.toList[176]? = some 0x15 by decide +kernel) (show cL_law.data.toList[177]? = some 0x04 by decide +kernel) rfl
theorem dL_law_178 : decode cL_law 178 = .ok (.iconst 2, 1) := sh_05 (show cL_law.data.toList[178]? = some 0x05 by decide +kernel)
theorem dL_law_179 : decode cL_law 179 = .ok (.iadd, 1) := sh_60 (show cL_law.data.toList[179]? = some 0x60 by decide +kernel)
theorem dL_law_180 : decode cL_law 180 = .ok (.iaload, 1) := sh_2e (show cL_law.data.toList[180]? = some 0x2e by decide +kernel)
theorem dL_law_181 : decode cL_law 181 = .ok (.aload_n 0, 1) := sh_2a (show cL_law.data.toList[181]? = some 0x2a by decide +kernel)
theorem dL_law_182 : decode cL_law 182 = .ok (.iload 4, 2) := sh_15 (show cL_law.data.toList[182]? = some 0x15 by decide +kernel) (show cL_law.data.toList[183]? = some 0x04 by decide +kernel) rfl
theorem dL_law_184 : decode cL_law 184 = .ok (.iconst 3, 1) := sh_06 (show cL_law.data.toList[184]? = some 0x06 by decide +kernel)
theorem dL_law_185 : decode cL_law 185 = .ok (.iadd, 1) := sh_60 (show cL_law.data.toList[185]? = some 0x60 by decide +kernel)
theorem dL_law_186 : decode cL_law 186 = .ok (.iaload, 1) := sh_2e (show cL_law.data.toList[186]? = some 0x2e by decide +kernel)
theorem dL_law_187 : decode cL_law 187 = .ok (.aload_n 3, 1) := sh_2d (show cL_law.data.toList[187]? = some 0x2d by decide +kernel)
theorem dL_law_188 : decode cL_law 188 = .ok (.invokestatic 112, 3) := sh_b8 (show cL_law.data.toList[188]? = some 0xb8 by decide +kernel) (show cL_law.data.toList[189]? = some 0x00 by decide +kernel) (show cL_law.data.toList[190]? = some 0x70 by decide +kernel) rfl
theorem dL_law_191 : decode cL_law 191 = .ok (.istore 5, 2) := sh_36 (show cL_law.data.toList[191]? = some 0x36 by decide +kernel) (show cL_law.data.toList[192]? = some 0x05 by decide +kernel) rfl
theorem dL_law_193 : decode cL_law 193 = .ok (.aload_n 2, 1) := sh_2c (show cL_law.data.toList[193]? = some 0x2c by decide +kernel)
theorem dL_law_194 : decode cL_law 194 = .ok (.aload_n 0, 1) := sh_2a (show cL_law.data.toList[194]? = some 0x2a by decide +kernel)
theorem dL_law_195 : decode cL_law 195 = .ok (.iload 4, 2) := sh_15 (show cL_law.data.toList[195]? = some 0x15 by decide +kernel) (show cL_law.data.toList[196]? = some 0x04 by decide +kernel) rfl
theorem dL_law_197 : decode cL_law 197 = .ok (.iconst 1, 1) := sh_04 (show cL_law.data.toList[197]? = some 0x04 by decide +kernel)
theorem dL_law_198 : decode cL_law 198 = .ok (.iadd, 1) := sh_60 (show cL_law.data.toList[198]? = some 0x60 by decide +kernel)
theorem dL_law_199 : decode cL_law 199 = .ok (.iaload, 1) := sh_2e (show cL_law.data.toList[199]? = some 0x2e by decide +kernel)
theorem dL_law_200 : decode cL_law 200 = .ok (.aload_n 0, 1) := sh_2a (show cL_law.data.toList[200]? = some 0x2a by decide +kernel)
theorem dL_law_201 : decode cL_law 201 = .ok (.iload 4, 2) := sh_15 (show cL_law.data.toList[201]? = some 0x15 by decide +kernel) (show cL_law.data.toList[202]? = some 0x04 by decide +kernel) rfl
theorem dL_law_203 : decode cL_law 203 = .ok (.iconst 2, 1) := sh_05 (show cL_law.data.toList[203]? = some 0x05 by decide +kernel)
theorem dL_law_204 : decode cL_law 204 = .ok (.iadd, 1) := sh_60 (show cL_law.data.toList[204]? = some 0x60 by decide +kernel)
theorem dL_law_205 : decode cL_law 205 = .ok (.iaload, 1) := sh_2e (show cL_law.data.toList[205]? = some 0x2e by decide +kernel)
theorem dL_law_206 : decode cL_law 206 = .ok (.aload_n 0, 1) := sh_2a (show cL_law.data.toList[206]? = some 0x2a by decide +kernel)
theorem dL_law_207 : decode cL_law 207 = .ok (.iload 4, 2) := sh_15 (show cL_law.data.toList[207]? = some 0x15 by decide +kernel) (show cL_law.data.toList[208]? = some 0x04 by decide +kernel) rfl
theorem dL_law_209 : decode cL_law 209 = .ok (.iconst 3, 1) := sh_06 (show cL_law.data.toList[209]? = some 0x06 by decide +kernel)
theorem dL_law_210 : decode cL_law 210 = .ok (.iadd, 1) := sh_60 (show cL_law.data.toList[210]? = some 0x60 by decide +kernel)
theorem dL_law_211 : decode cL_law 211 = .ok (.iaload, 1) := sh_2e (show cL_law.data.toList[211]? = some 0x2e by decide +kernel)
theorem dL_law_212 : decode cL_law 212 = .ok (.invokevirtual 117, 3) := sh_b6 (show cL_law.data.toList[212]? = some 0xb6 by decide +kernel) (show cL_law.data.toList[213]? = some 0x00 by decide +kernel) (show cL_law.data.toList[214]? = some 0x75 by decide +kernel) rfl
theorem dL_law_215 : decode cL_law 215 = .ok (.istore 6, 2) := sh_36 (show cL_law.data.toList[215]? = some 0x36 by decide +kernel) (show cL_law.data.toList[216]? = some 0x06 by decide +kernel) rfl
theorem dL_law_217 : decode cL_law 217 = .ok (.goto 1321, 3) := sh_a7 (n := 1321) (show cL_law.data.toList[217]? = some 0xa7 by decide +kernel) (show cL_law.data.toList[218]? = some 0x05 by decide +kernel) (show cL_law.data.toList[219]? = some 0x29 by decide +kernel) rfl (by decide)
theorem dL_law_220 : decode cL_law 220 = .ok (.aload_n 1, 1) := sh_2b (show cL_law.data.toList[220]? = some 0x2b by decide +kernel)
theorem dL_law_221 : decode cL_law 221 = .ok (.aload_n 0, 1) := sh_2a (show cL_law.data.toList[221]? = some 0x2a by decide +kernel)
theorem dL_law_222 : decode cL_law 222 = .ok (.iload 4, 2) := sh_15 (show cL_law.data.toList[222]? = some 0x15 by decide +kernel) (show cL_law.data.toList[223]? = some 0x04 by decide +kernel) rfl
theorem dL_law_224 : decode cL_law 224 = .ok (.iconst 1, 1) := sh_04 (show cL_law.data.toList[224]? = some 0x04 by decide +kernel)
theorem dL_law_225 : decode cL_law 225 = .ok (.iadd, 1) := sh_60 (show cL_law.data.toList[225]? = some 0x60 by decide +kernel)
theorem dL_law_226 : decode cL_law 226 = .ok (.iaload, 1) := sh_2e (show cL_law.data.toList[226]? = some 0x2e by decide +kernel)
theorem dL_law_227 : decode cL_law 227 = .ok (.aload_n 0, 1) := sh_2a (show cL_law.data.toList[227]? = some 0x2a by decide +kernel)
theorem dL_law_228 : decode cL_law 228 = .ok (.iload 4, 2) := sh_15 (show cL_law.data.toList[228]? = some 0x15 by decide +kernel) (show cL_law.data.toList[229]? = some 0x04 by decide +kernel) rfl
theorem dL_law_230 : decode cL_law 230 = .ok (.iconst 2, 1) := sh_05 (show cL_law.data.toList[230]? = some 0x05 by decide +kernel)
theorem dL_law_231 : decode cL_law 231 = .ok (.iadd, 1) := sh_60 (show cL_law.data.toList[231]? = some 0x60 by decide +kernel)
theorem dL_law_232 : decode cL_law 232 = .ok (.iaload, 1) := sh_2e (show cL_law.data.toList[232]? = some 0x2e by decide +kernel)
theorem dL_law_233 : decode cL_law 233 = .ok (.aload_n 3, 1) := sh_2d (show cL_law.data.toList[233]? = some 0x2d by decide +kernel)
theorem dL_law_234 : decode cL_law 234 = .ok (.invokestatic 118, 3) := sh_b8 (show cL_law.data.toList[234]? = some 0xb8 by decide +kernel) (show cL_law.data.toList[235]? = some 0x00 by decide +kernel) (show cL_law.data.toList[236]? = some 0x76 by decide +kernel) rfl
theorem dL_law_237 : decode cL_law 237 = .ok (.istore 5, 2) := sh_36 (show cL_law.data.toList[237]? = some 0x36 by decide +kernel) (show cL_law.data.toList[238]? = some 0x05 by decide +kernel) rfl
theorem dL_law_239 : decode cL_law 239 = .ok (.aload_n 2, 1) := sh_2c (show cL_law.data.toList[239]? = some 0x2c by decide +kernel)
theorem dL_law_240 : decode cL_law 240 = .ok (.aload_n 0, 1) := sh_2a (show cL_law.data.toList[240]? = some 0x2a by decide +kernel)
theorem dL_law_241 : decode cL_law 241 = .ok (.iload 4, 2) := sh_15 (show cL_law.data.toList[241]? = some 0x15 by decide +kernel) (show cL_law.data.toList[242]? = some 0x04 by decide +kernel) rfl
theorem dL_law_243 : decode cL_law 243 = .ok (.iconst 1, 1) := sh_04 (show cL_law.data.toList[243]? = some 0x04 by decide +kernel)
theorem dL_law_244 : decode cL_law 244 = .ok (.iadd, 1) := sh_60 (show cL_law.data.toList[244]? = some 0x60 by decide +kernel)
theorem dL_law_245 : decode cL_law 245 = .ok (.iaload, 1) := sh_2e (show cL_law.data.toList[245]? = some 0x2e by decide +kernel)
theorem dL_law_246 : decode cL_law 246 = .ok (.aload_n 0, 1) := sh_2a (show cL_law.data.toList[246]? = some 0x2a by decide +kernel)
theorem dL_law_247 : decode cL_law 247 = .ok (.iload 4, 2) := sh_15 (show cL_law.data.toList[247]? = some 0x15 by decide +kernel) (show cL_law.data.toList[248]? = some 0x04 by decide +kernel) rfl
theorem dL_law_249 : decode cL_law 249 = .ok (.iconst 2, 1) := sh_05 (show cL_law.data.toList[249]? = some 0x05 by decide +kernel)
theorem dL_law_250 : decode cL_law 250 = .ok (.iadd, 1) := sh_60 (show cL_law.data.toList[250]? = some 0x60 by decide +kernel)
theorem dL_law_251 : decode cL_law 251 = .ok (.iaload, 1) := sh_2e (show cL_law.data.toList[251]? = some 0x2e by decide +kernel)
theorem dL_law_252 : decode cL_law 252 = .ok (.invokevirtual 121, 3) := sh_b6 (show cL_law.data.toList[252]? = some 0xb6 by decide +kernel) (show cL_law.data.toList[253]? = some 0x00 by decide +kernel) (show cL_law.data.toList[254]? = some 0x79 by decide +kernel) rfl
theorem dL_law_255 : decode cL_law 255 = .ok (.istore 6, 2) := sh_36 (show cL_law.data.toList[255]? = some 0x36 by decide +kernel) (show cL_law.data.toList[256]? = some 0x06 by decide +kernel) rfl
theorem dL_law_257 : decode cL_law 257 = .ok (.goto 1281, 3) := sh_a7 (n := 1281) (show cL_law.data.toList[257]? = some 0xa7 by decide +kernel) (show cL_law.data.toList[258]? = some 0x05 by decide +kernel) (show cL_law.data.toList[259]? = some 0x01 by decide +kernel) rfl (by decide)
theorem dL_law_260 : decode cL_law 260 = .ok (.aload_n 1, 1) := sh_2b (show cL_law.data.toList[260]? = some 0x2b by decide +kernel)
theorem dL_law_261 : decode cL_law 261 = .ok (.aload_n 0, 1) := sh_2a (show cL_law.data.toList[261]? = some 0x2a by decide +kernel)
theorem dL_law_262 : decode cL_law 262 = .ok (.iload 4, 2) := sh_15 (show cL_law.data.toList[262]? = some 0x15 by decide +kernel) (show cL_law.data.toList[263]? = some 0x04 by decide +kernel) rfl
theorem dL_law_264 : decode cL_law 264 = .ok (.iconst 1, 1) := sh_04 (show cL_law.data.toList[264]? = some 0x04 by decide +kernel)
theorem dL_law_265 : decode cL_law 265 = .ok (.iadd, 1) := sh_60 (show cL_law.data.toList[265]? = some 0x60 by decide +kernel)
theorem dL_law_266 : decode cL_law 266 = .ok (.iaload, 1) := sh_2e (show cL_law.data.toList[266]? = some 0x2e by decide +kernel)
theorem dL_law_267 : decode cL_law 267 = .ok (.aload_n 0, 1) := sh_2a (show cL_law.data.toList[267]? = some 0x2a by decide +kernel)
theorem dL_law_268 : decode cL_law 268 = .ok (.iload 4, 2) := sh_15 (show cL_law.data.toList[268]? = some 0x15 by decide +kernel) (show cL_law.data.toList[269]? = some 0x04 by decide +kernel) rfl
theorem dL_law_270 : decode cL_law 270 = .ok (.iconst 2, 1) := sh_05 (show cL_law.data.toList[270]? = some 0x05 by decide +kernel)
theorem dL_law_271 : decode cL_law 271 = .ok (.iadd, 1) := sh_60 (show cL_law.data.toList[271]? = some 0x60 by decide +kernel)
theorem dL_law_272 : decode cL_law 272 = .ok (.iaload, 1) := sh_2e (show cL_law.data.toList[272]? = some 0x2e by decide +kernel)
theorem dL_law_273 : decode cL_law 273 = .ok (.ifCond .eq 7, 3) := sh_99 (n := 7) (show cL_law.data.toList[273]? = some 0x99 by decide +kernel) (show cL_law.data.toList[274]? = some 0x00 by decide +kernel) (show cL_law.data.toList[275]? = some 0x07 by decide +kernel) rfl (by decide)
theorem dL_law_276 : decode cL_law 276 = .ok (.iconst 1, 1) := sh_04 (show cL_law.data.toList[276]? = some 0x04 by decide +kernel)
theorem dL_law_277 : decode cL_law 277 = .ok (.goto 4, 3) := sh_a7 (n := 4) (show cL_law.data.toList[277]? = some 0xa7 by decide +kernel) (show cL_law.data.toList[278]? = some 0x00 by decide +kernel) (show cL_law.data.toList[279]? = some 0x04 by decide +kernel) rfl (by decide)
theorem dL_law_280 : decode cL_law 280 = .ok (.iconst 0, 1) := sh_03 (show cL_law.data.toList[280]? = some 0x03 by decide +kernel)
theorem dL_law_281 : decode cL_law 281 = .ok (.aload_n 3, 1) := sh_2d (show cL_law.data.toList[281]? = some 0x2d by decide +kernel)
theorem dL_law_282 : decode cL_law 282 = .ok (.invokestatic 122, 3) := sh_b8 (show cL_law.data.toList[282]? = some 0xb8 by decide +kernel) (show cL_law.data.toList[283]? = some 0x00 by decide +kernel) (show cL_law.data.toList[284]? = some 0x7a by decide +kernel) rfl
theorem dL_law_285 : decode cL_law 285 = .ok (.istore 5, 2) := sh_36 (show cL_law.data.toList[285]? = some 0x36 by decide +kernel) (show cL_law.data.toList[286]? = some 0x05 by decide +kernel) rfl
theorem dL_law_287 : decode cL_law 287 = .ok (.aload_n 2, 1) := sh_2c (show cL_law.data.toList[287]? = some 0x2c by decide +kernel)
theorem dL_law_288 : decode cL_law 288 = .ok (.aload_n 0, 1) := sh_2a (show cL_law.data.toList[288]? = some 0x2a by decide +kernel)
theorem dL_law_289 : decode cL_law 289 = .ok (.iload 4, 2) := sh_15 (show cL_law.data.toList[289]? = some 0x15 by decide +kernel) (show cL_law.data.toList[290]? = some 0x04 by decide +kernel) rfl
theorem dL_law_291 : decode cL_law 291 = .ok (.iconst 1, 1) := sh_04 (show cL_law.data.toList[291]? = some 0x04 by decide +kernel)
theorem dL_law_292 : decode cL_law 292 = .ok (.iadd, 1) := sh_60 (show cL_law.data.toList[292]? = some 0x60 by decide +kernel)
theorem dL_law_293 : decode cL_law 293 = .ok (.iaload, 1) := sh_2e (show cL_law.data.toList[293]? = some 0x2e by decide +kernel)
theorem dL_law_294 : decode cL_law 294 = .ok (.aload_n 0, 1) := sh_2a (show cL_law.data.toList[294]? = some 0x2a by decide +kernel)
theorem dL_law_295 : decode cL_law 295 = .ok (.iload 4, 2) := sh_15 (show cL_law.data.toList[295]? = some 0x15 by decide +kernel) (show cL_law.data.toList[296]? = some 0x04 by decide +kernel) rfl
theorem dL_law_297 : decode cL_law 297 = .ok (.iconst 2, 1) := sh_05 (show cL_law.data.toList[297]? = some 0x05 by decide +kernel)
theorem dL_law_298 : decode cL_law 298 = .ok (.iadd, 1) := sh_60 (show cL_law.data.toList[298]? = some 0x60 by decide +kernel)
theorem dL_law_299 : decode cL_law 299 = .ok (.iaload, 1) := sh_2e (show cL_law.data.toList[299]? = some 0x2e by decide +kernel)
theorem dL_law_300 : decode cL_law 300 = .ok (.ifCond .eq 7, 3) := sh_99 (n := 7) (show cL_law.data.toList[300]? = some 0x99 by decide +kernel) (show cL_law.data.toList[301]? = some 0x00 by decide +kernel) (show cL_law.data.toList[302]? = some 0x07 by decide +kernel) rfl (by decide)
theorem dL_law_303 : decode cL_law 303 = .ok (.iconst 1, 1) := sh_04 (show cL_law.data.toList[303]? = some 0x04 by decide +kernel)
theorem dL_law_304 : decode cL_law 304 = .ok (.goto 4, 3) := sh_a7 (n := 4) (show cL_law.data.toList[304]? = some 0xa7 by decide +kernel) (show cL_law.data.toList[305]? = some 0x00 by decide +kernel) (show cL_law.data.toList[306]? = some 0x04 by decide +kernel) rfl (by decide)
theorem dL_law_307 : decode cL_law 307 = .ok (.iconst 0, 1) := sh_03 (show cL_law.data.toList[307]? = some 0x03 by decide +kernel)
theorem dL_law_308 : decode cL_law 308 = .ok (.invokevirtual 125, 3) := sh_b6 (show cL_law.data.toList[308]? = some 0xb6 by decide +kernel) (show cL_law.data.toList[309]? = some 0x00 by decide +kernel) (show cL_law.data.toList[310]? = some 0x7d by decide +kernel) rfl
theorem dL_law_311 : decode cL_law 311 = .ok (.istore 6, 2) := sh_36 (show cL_law.data.toList[311]? = some 0x36 by decide +kernel) (show cL_law.data.toList[312]? = some 0x06 by decide +kernel) rfl
theorem dL_law_313 : decode cL_law 313 = .ok (.goto 1225, 3) := sh_a7 (n := 1225) (show cL_law.data.toList[313]? = some 0xa7 by decide +kernel) (show cL_law.data.toList[314]? = some 0x04 by decide +kernel) (show cL_law.data.toList[315]? = some 0xc9 by decide +kernel) rfl (by decide)
theorem dL_law_316 : decode cL_law 316 = .ok (.aload_n 1, 1) := sh_2b (show cL_law.data.toList[316]? = some 0x2b by decide +kernel)
theorem dL_law_317 : decode cL_law 317 = .ok (.aload_n 3, 1) := sh_2d (show cL_law.data.toList[317]? = some 0x2d by decide +kernel)
theorem dL_law_318 : decode cL_law 318 = .ok (.invokestatic 126, 3) := sh_b8 (show cL_law.data.toList[318]? = some 0xb8 by decide +kernel) (show cL_law.data.toList[319]? = some 0x00 by decide +kernel) (show cL_law.data.toList[320]? = some 0x7e by decide +kernel) rfl
theorem dL_law_321 : decode cL_law 321 = .ok (.istore 5, 2) := sh_36 (show cL_law.data.toList[321]? = some 0x36 by decide +kernel) (show cL_law.data.toList[322]? = some 0x05 by decide +kernel) rfl
theorem dL_law_323 : decode cL_law 323 = .ok (.aload_n 2, 1) := sh_2c (show cL_law.data.toList[323]? = some 0x2c by decide +kernel)
theorem dL_law_324 : decode cL_law 324 = .ok (.invokevirtual 129, 3) := sh_b6 (show cL_law.data.toList[324]? = some 0xb6 by decide +kernel) (show cL_law.data.toList[325]? = some 0x00 by decide +kernel) (show cL_law.data.toList[326]? = some 0x81 by decide +kernel) rfl
theorem dL_law_327 : decode cL_law 327 = .ok (.istore 6, 2) := sh_36 (show cL_law.data.toList[327]? = some 0x36 by decide +kernel) (show cL_law.data.toList[328]? = some 0x06 by decide +kernel) rfl
theorem dL_law_329 : decode cL_law 329 = .ok (.goto 1209, 3) := sh_a7 (n := 1209) (show cL_law.data.toList[329]? = some 0xa7 by decide +kernel) (show cL_law.data.toList[330]? = some 0x04 by decide +kernel) (show cL_law.data.toList[331]? = some 0xb9 by decide +kernel) rfl (by decide)
theorem dL_law_332 : decode cL_law 332 = .ok (.aload_n 1, 1) := sh_2b (show cL_law.data.toList[332]? = some 0x2b by decide +kernel)
theorem dL_law_333 : decode cL_law 333 = .ok (.invokevirtual 130, 3) := sh_b6 (show cL_law.data.toList[333]? = some 0xb6 by decide +kernel) (show cL_law.data.toList[334]? = some 0x00 by decide +kernel) (show cL_law.data.toList[335]? = some 0x82 by decide +kernel) rfl
theorem dL_law_336 : decode cL_law 336 = .ok (.pop, 1) := sh_57 (show cL_law.data.toList[336]? = some 0x57 by decide +kernel)
theorem dL_law_337 : decode cL_law 337 = .ok (.aload_n 2, 1) := sh_2c (show cL_law.data.toList[337]? = some 0x2c by decide +kernel)
theorem dL_law_338 : decode cL_law 338 = .ok (.invokevirtual 133, 3) := sh_b6 (show cL_law.data.toList[338]? = some 0xb6 by decide +kernel) (show cL_law.data.toList[339]? = some 0x00 by decide +kernel) (show cL_law.data.toList[340]? = some 0x85 by decide +kernel) rfl
theorem dL_law_341 : decode cL_law 341 = .ok (.pop, 1) := sh_57 (show cL_law.data.toList[341]? = some 0x57 by decide +kernel)
theorem dL_law_342 : decode cL_law 342 = .ok (.goto 1196, 3) := sh_a7 (n := 1196) (show cL_law.data.toList[342]? = some 0xa7 by decide +kernel) (show cL_law.data.toList[343]? = some 0x04 by decide +kernel) (show cL_law.data.toList[344]? = some 0xac by decide +kernel) rfl (by decide)
theorem dL_law_345 : decode cL_law 345 = .ok (.aload_n 1, 1) := sh_2b (show cL_law.data.toList[345]? = some 0x2b by decide +kernel)
theorem dL_law_346 : decode cL_law 346 = .ok (.aload_n 0, 1) := sh_2a (show cL_law.data.toList[346]? = some 0x2a by decide +kernel)
theorem dL_law_347 : decode cL_law 347 = .ok (.iload 4, 2) := sh_15 (show cL_law.data.toList[347]? = some 0x15 by decide +kernel) (show cL_law.data.toList[348]? = some 0x04 by decide +kernel) rfl
theorem dL_law_349 : decode cL_law 349 = .ok (.iconst 1, 1) := sh_04 (show cL_law.data.toList[349]? = some 0x04 by decide +kernel)
theorem dL_law_350 : decode cL_law 350 = .ok (.iadd, 1) := sh_60 (show cL_law.data.toList[350]? = some 0x60 by decide +kernel)
theorem dL_law_351 : decode cL_law 351 = .ok (.iaload, 1) := sh_2e (show cL_law.data.toList[351]? = some 0x2e by decide +kernel)
theorem dL_law_352 : decode cL_law 352 = .ok (.aload_n 0, 1) := sh_2a (show cL_law.data.toList[352]? = some 0x2a by decide +kernel)
theorem dL_law_353 : decode cL_law 353 = .ok (.iload 4, 2) := sh_15 (show cL_law.data.toList[353]? = some 0x15 by decide +kernel) (show cL_law.data.toList[354]? = some 0x04 by decide +kernel) rfl
theorem dL_law_355 : decode cL_law 355 = .ok (.iconst 2, 1) := sh_05 (show cL_law.data.toList[355]? = some 0x05 by decide +kernel)
theorem dL_law_356 : decode cL_law 356 = .ok (.iadd, 1) := sh_60 (show cL_law.data.toList[356]? = some 0x60 by decide +kernel)
theorem dL_law_357 : decode cL_law 357 = .ok (.iaload, 1) := sh_2e (show cL_law.data.toList[357]? = some 0x2e by decide +kernel)
theorem dL_law_358 : decode cL_law 358 = .ok (.aload_n 0, 1) := sh_2a (show cL_law.data.toList[358]? = some 0x2a by decide +kernel)
theorem dL_law_359 : decode cL_law 359 = .ok (.iload 4, 2) := sh_15 (show cL_law.data.toList[359]? = some 0x15 by decide +kernel) (show cL_law.data.toList[360]? = some 0x04 by decide +kernel) rfl
theorem dL_law_361 : decode cL_law 361 = .ok (.iconst 3, 1) := sh_06 (show cL_law.data.toList[361]? = some 0x06 by decide +kernel)
theorem dL_law_362 : decode cL_law 362 = .ok (.iadd, 1) := sh_60 (show cL_law.data.toList[362]? = some 0x60 by decide +kernel)
theorem dL_law_363 : decode cL_law 363 = .ok (.iaload, 1) := sh_2e (show cL_law.data.toList[363]? = some 0x2e by decide +kernel)
theorem dL_law_364 : decode cL_law 364 = .ok (.aload_n 3, 1) := sh_2d (show cL_law.data.toList[364]? = some 0x2d by decide +kernel)
theorem dL_law_365 : decode cL_law 365 = .ok (.invokestatic 134, 3) := sh_b8 (show cL_law.data.toList[365]? = some 0xb8 by decide +kernel) (show cL_law.data.toList[366]? = some 0x00 by decide +kernel) (show cL_law.data.toList[367]? = some 0x86 by decide +kernel) rfl
theorem dL_law_368 : decode cL_law 368 = .ok (.istore 5, 2) := sh_36 (show cL_law.data.toList[368]? = some 0x36 by decide +kernel) (show cL_law.data.toList[369]? = some 0x05 by decide +kernel) rfl
theorem dL_law_370 : decode cL_law 370 = .ok (.aload_n 2, 1) := sh_2c (show cL_law.data.toList[370]? = some 0x2c by decide +kernel)
theorem dL_law_371 : decode cL_law 371 = .ok (.aload_n 0, 1) := sh_2a (show cL_law.data.toList[371]? = some 0x2a by decide +kernel)
theorem dL_law_372 : decode cL_law 372 = .ok (.iload 4, 2) := sh_15 (show cL_law.data.toList[372]? = some 0x15 by decide +kernel) (show cL_law.data.toList[373]? = some 0x04 by decide +kernel) rfl
theorem dL_law_374 : decode cL_law 374 = .ok (.iconst 1, 1) := sh_04 (show cL_law.data.toList[374]? = some 0x04 by decide +kernel)
theorem dL_law_375 : decode cL_law 375 = .ok (.iadd, 1) := sh_60 (show cL_law.data.toList[375]? = some 0x60 by decide +kernel)
theorem dL_law_376 : decode cL_law 376 = .ok (.iaload, 1) := sh_2e (show cL_law.data.toList[376]? = some 0x2e by decide +kernel)
theorem dL_law_377 : decode cL_law 377 = .ok (.aload_n 0, 1) := sh_2a (show cL_law.data.toList[377]? = some 0x2a by decide +kernel)
theorem dL_law_378 : decode cL_law 378 = .ok (.iload 4, 2) := sh_15 (show cL_law.data.toList[378]? = some 0x15 by decide +kernel) (show cL_law.data.toList[379]? = some 0x04 by decide +kernel) rfl
theorem dL_law_380 : decode cL_law 380 = .ok (.iconst 2, 1) := sh_05 (show cL_law.data.toList[380]? = some 0x05 by decide +kernel)
theorem dL_law_381 : decode cL_law 381 = .ok (.iadd, 1) := sh_60 (show cL_law.data.toList[381]? = some 0x60 by decide +kernel)
theorem dL_law_382 : decode cL_law 382 = .ok (.iaload, 1) := sh_2e (show cL_law.data.toList[382]? = some 0x2e by decide +kernel)
theorem dL_law_383 : decode cL_law 383 = .ok (.aload_n 0, 1) := sh_2a (show cL_law.data.toList[383]? = some 0x2a by decide +kernel)
theorem dL_law_384 : decode cL_law 384 = .ok (.iload 4, 2) := sh_15 (show cL_law.data.toList[384]? = some 0x15 by decide +kernel) (show cL_law.data.toList[385]? = some 0x04 by decide +kernel) rfl
theorem dL_law_386 : decode cL_law 386 = .ok (.iconst 3, 1) := sh_06 (show cL_law.data.toList[386]? = some 0x06 by decide +kernel)
theorem dL_law_387 : decode cL_law 387 = .ok (.iadd, 1) := sh_60 (show cL_law.data.toList[387]? = some 0x60 by decide +kernel)
theorem dL_law_388 : decode cL_law 388 = .ok (.iaload, 1) := sh_2e (show cL_law.data.toList[388]? = some 0x2e by decide +kernel)
theorem dL_law_389 : decode cL_law 389 = .ok (.invokevirtual 136, 3) := sh_b6 (show cL_law.data.toList[389]? = some 0xb6 by decide +kernel) (show cL_law.data.toList[390]? = some 0x00 by decide +kernel) (show cL_law.data.toList[391]? = some 0x88 by decide +kernel) rfl
theorem dL_law_392 : decode cL_law 392 = .ok (.istore 6, 2) := sh_36 (show cL_law.data.toList[392]? = some 0x36 by decide +kernel) (show cL_law.data.toList[393]? = some 0x06 by decide +kernel) rfl
theorem dL_law_394 : decode cL_law 394 = .ok (.goto 1144, 3) := sh_a7 (n := 1144) (show cL_law.data.toList[394]? = some 0xa7 by decide +kernel) (show cL_law.data.toList[395]? = some 0x04 by decide +kernel) (show cL_law.data.toList[396]? = some 0x78 by decide +kernel) rfl (by decide)
theorem dL_law_397 : decode cL_law 397 = .ok (.aload_n 1, 1) := sh_2b (show cL_law.data.toList[397]? = some 0x2b by decide +kernel)
theorem dL_law_398 : decode cL_law 398 = .ok (.aload_n 0, 1) := sh_2a (show cL_law.data.toList[398]? = some 0x2a by decide +kernel)
theorem dL_law_399 : decode cL_law 399 = .ok (.iload 4, 2) := sh_15 (show cL_law.data.toList[399]? = some 0x15 by decide +kernel) (show cL_law.data.toList[400]? = some 0x04 by decide +kernel) rfl
theorem dL_law_401 : decode cL_law 401 = .ok (.iconst 1, 1) := sh_04 (show cL_law.data.toList[401]? = some 0x04 by decide +kernel)
theorem dL_law_402 : decode cL_law 402 = .ok (.iadd, 1) := sh_60 (show cL_law.data.toList[402]? = some 0x60 by decide +kernel)
theorem dL_law_403 : decode cL_law 403 = .ok (.iaload, 1) := sh_2e (show cL_law.data.toList[403]? = some 0x2e by decide +kernel)
theorem dL_law_404 : decode cL_law 404 = .ok (.aload_n 0, 1) := sh_2a (show cL_law.data.toList[404]? = some 0x2a by decide +kernel)
theorem dL_law_405 : decode cL_law 405 = .ok (.iload 4, 2) := sh_15 (show cL_law.data.toList[405]? = some 0x15 by decide +kernel) (show cL_law.data.toList[406]? = some 0x04 by decide +kernel) rfl
theorem dL_law_407 : decode cL_law 407 = .ok (.iconst 2, 1) := sh_05 (show cL_law.data.toList[407]? = some 0x05 by decide +kernel)
theorem dL_law_408 : decode cL_law 408 = .ok (.iadd, 1) := sh_60 (show cL_law.data.toList[408]? = some 0x60 by decide +kernel)
theorem dL_law_409 : decode cL_law 409 = .ok (.iaload, 1) := sh_2e (show cL_law.data.toList[409]? = some 0x2e by decide +kernel)
theorem dL_law_410 : decode cL_law 410 = .ok (.aload_n 0, 1) := sh_2a (show cL_law.data.toList[410]? = some 0x2a by decide +kernel)
theorem dL_law_411 : decode cL_law 411 = .ok (.iload 4, 2) := sh_15 (show cL_law.data.toList[411]? = some 0x15 by decide +kernel) (show cL_law.data.toList[412]? = some 0x04 by decide +kernel) rfl
theorem dL_law_413 : decode cL_law 413 = .ok (.iconst 3, 1) := sh_06 (show cL_law.data.toList[413]? = some 0x06 by decide +kernel)
theorem dL_law_414 : decode cL_law 414 = .ok (.iadd, 1) := sh_60 (show cL_law.data.toList[414]? = some 0x60 by decide +kernel)
theorem dL_law_415 : decode cL_law 415 = .ok (.iaload, 1) := sh_2e (show cL_law.data.toList[415]? = some 0x2e by decide +kernel)
theorem dL_law_416 : decode cL_law 416 = .ok (.aload_n 3, 1) := sh_2d (show cL_law.data.toList[416]? = some 0x2d by decide +kernel)
theorem dL_law_417 : decode cL_law 417 = .ok (.invokestatic 137, 3) := sh_b8 (show cL_law.data.toList[417]? = some 0xb8 by decide +kernel) (show cL_law.data.toList[418]? = some 0x00 by decide +kernel) (show cL_law.data.toList[419]? = some 0x89 by decide +kernel) rfl
theorem dL_law_420 : decode cL_law 420 = .ok (.istore 5, 2) := sh_36 (show cL_law.data.toList[420]? = some 0x36 by decide +kernel) (show cL_law.data.toList[421]? = some 0x05 by decide +kernel) rfl
theorem dL_law_422 : decode cL_law 422 = .ok (.aload_n 2, 1) := sh_2c (show cL_law.data.toList[422]? = some 0x2c by decide +kernel)
theorem dL_law_423 : decode cL_law 423 = .ok (.aload_n 0, 1) := sh_2a (show cL_law.data.toList[423]? = some 0x2a by decide +kernel)
theorem dL_law_424 : decode cL_law 424 = .ok (.iload 4, 2) := sh_15 (show cL_law.data.toList[424]? = some 0x15 by decide +kernel) (show cL_law.data.toList[425]? = some 0x04 by decide +kernel) rfl
theorem dL_law_426 : decode cL_law 426 = .ok (.iconst 1, 1) := sh_04 (show cL_law.data.toList[426]? = some 0x04 by decide +kernel)
theorem dL_law_427 : decode cL_law 427 = .ok (.iadd, 1) := sh_60 (show cL_law.data.toList[427]? = some 0x60 by decide +kernel)
theorem dL_law_428 : decode cL_law 428 = .ok (.iaload, 1) := sh_2e (show cL_law.data.toList[428]? = some 0x2e by decide +kernel)
theorem dL_law_429 : decode cL_law 429 = .ok (.aload_n 0, 1) := sh_2a (show cL_law.data.toList[429]? = some 0x2a by decide +kernel)
theorem dL_law_430 : decode cL_law 430 = .ok (.iload 4, 2) := sh_15 (show cL_law.data.toList[430]? = some 0x15 by decide +kernel) (show cL_law.data.toList[431]? = some 0x04 by decide +kernel) rfl
theorem dL_law_432 : decode cL_law 432 = .ok (.iconst 2, 1) := sh_05 (show cL_law.data.toList[432]? = some 0x05 by decide +kernel)
theorem dL_law_433 : decode cL_law 433 = .ok (.iadd, 1) := sh_60 (show cL_law.data.toList[433]? = some 0x60 by decide +kernel)
theorem dL_law_434 : decode cL_law 434 = .ok (.iaload, 1) := sh_2e (show cL_law.data.toList[434]? = some 0x2e by decide +kernel)
theorem dL_law_435 : decode cL_law 435 = .ok (.aload_n 0, 1) := sh_2a (show cL_law.data.toList[435]? = some 0x2a by decide +kernel)
theorem dL_law_436 : decode cL_law 436 = .ok (.iload 4, 2) := sh_15 (show cL_law.data.toList[436]? = some 0x15 by decide +kernel) (show cL_law.data.toList[437]? = some 0x04 by decide +kernel) rfl
theorem dL_law_438 : decode cL_law 438 = .ok (.iconst 3, 1) := sh_06 (show cL_law.data.toList[438]? = some 0x06 by decide +kernel)
theorem dL_law_439 : decode cL_law 439 = .ok (.iadd, 1) := sh_60 (show cL_law.data.toList[439]? = some 0x60 by decide +kernel)
theorem dL_law_440 : decode cL_law 440 = .ok (.iaload, 1) := sh_2e (show cL_law.data.toList[440]? = some 0x2e by decide +kernel)
theorem dL_law_441 : decode cL_law 441 = .ok (.invokevirtual 139, 3) := sh_b6 (show cL_law.data.toList[441]? = some 0xb6 by decide +kernel) (show cL_law.data.toList[442]? = some 0x00 by decide +kernel) (show cL_law.data.toList[443]? = some 0x8b by decide +kernel) rfl
theorem dL_law_444 : decode cL_law 444 = .ok (.istore 6, 2) := sh_36 (show cL_law.data.toList[444]? = some 0x36 by decide +kernel) (show cL_law.data.toList[445]? = some 0x06 by decide +kernel) rfl
theorem dL_law_446 : decode cL_law 446 = .ok (.goto 1092, 3) := sh_a7 (n := 1092) (show cL_law.data.toList[446]? = some 0xa7 by decide +kernel) (show cL_law.data.toList[447]? = some 0x04 by decide +kernel) (show cL_law.data.toList[448]? = some 0x44 by decide +kernel) rfl (by decide)
theorem dL_law_449 : decode cL_law 449 = .ok (.aload_n 1, 1) := sh_2b (show cL_law.data.toList[449]? = some 0x2b by decide +kernel)
theorem dL_law_450 : decode cL_law 450 = .ok (.aload_n 0, 1) := sh_2a (show cL_law.data.toList[450]? = some 0x2a by decide +kernel)
theorem dL_law_451 : decode cL_law 451 = .ok (.iload 4, 2) := sh_15 (show cL_law.data.toList[451]? = some 0x15 by decide +kernel) (show cL_law.data.toList[452]? = some 0x04 by decide +kernel) rfl
theorem dL_law_453 : decode cL_law 453 = .ok (.iconst 1, 1) := sh_04 (show cL_law.data.toList[453]? = some 0x04 by decide +kernel)
theorem dL_law_454 : decode cL_law 454 = .ok (.iadd, 1) := sh_60 (show cL_law.data.toList[454]? = some 0x60 by decide +kernel)
theorem dL_law_455 : decode cL_law 455 = .ok (.iaload, 1) := sh_2e (show cL_law.data.toList[455]? = some 0x2e by decide +kernel)
theorem dL_law_456 : decode cL_law 456 = .ok (.aload_n 0, 1) := sh_2a (show cL_law.data.toList[456]? = some 0x2a by decide +kernel)
theorem dL_law_457 : decode cL_law 457 = .ok (.iload 4, 2) := sh_15 (show cL_law.data.toList[457]? = some 0x15 by decide +kernel) (show cL_law.data.toList[458]? = some 0x04 by decide +kernel) rfl
theorem dL_law_459 : decode cL_law 459 = .ok (.iconst 2, 1) := sh_05 (show cL_law.data.toList[459]? = some 0x05 by decide +kernel)
theorem dL_law_460 : decode cL_law 460 = .ok (.iadd, 1) := sh_60 (show cL_law.data.toList[460]? = some 0x60 by decide +kernel)
theorem dL_law_461 : decode cL_law 461 = .ok (.iaload, 1) := sh_2e (show cL_law.data.toList[461]? = some 0x2e by decide +kernel)
theorem dL_law_462 : decode cL_law 462 = .ok (.aload_n 0, 1) := sh_2a (show cL_law.data.toList[462]? = some 0x2a by decide +kernel)
theorem dL_law_463 : decode cL_law 463 = .ok (.iload 4, 2) := sh_15 (show cL_law.data.toList[463]? = some 0x15 by decide +kernel) (show cL_law.data.toList[464]? = some 0x04 by decide +kernel) rfl
theorem dL_law_465 : decode cL_law 465 = .ok (.iconst 3, 1) := sh_06 (show cL_law.data.toList[465]? = some 0x06 by decide +kernel)
theorem dL_law_466 : decode cL_law 466 = .ok (.iadd, 1) := sh_60 (show cL_law.data.toList[466]? = some 0x60 by decide +kernel)
theorem dL_law_467 : decode cL_law 467 = .ok (.iaload, 1) := sh_2e (show cL_law.data.toList[467]? = some 0x2e by decide +kernel)
theorem dL_law_468 : decode cL_law 468 = .ok (.ifCond .eq 7, 3) := sh_99 (n := 7) (show cL_law.data.toList[468]? = some 0x99 by decide +kernel) (show cL_law.data.toList[469]? = some 0x00 by decide +kernel) (show cL_law.data.toList[470]? = some 0x07 by decide +kernel) rfl (by decide)
theorem dL_law_471 : decode cL_law 471 = .ok (.iconst 1, 1) := sh_04 (show cL_law.data.toList[471]? = some 0x04 by decide +kernel)
theorem dL_law_472 : decode cL_law 472 = .ok (.goto 4, 3) := sh_a7 (n := 4) (show cL_law.data.toList[472]? = some 0xa7 by decide +kernel) (show cL_law.data.toList[473]? = some 0x00 by decide +kernel) (show cL_law.data.toList[474]? = some 0x04 by decide +kernel) rfl (by decide)
theorem dL_law_475 : decode cL_law 475 = .ok (.iconst 0, 1) := sh_03 (show cL_law.data.toList[475]? = some 0x03 by decide +kernel)
theorem dL_law_476 : decode cL_law 476 = .ok (.aload_n 3, 1) := sh_2d (show cL_law.data.toList[476]? = some 0x2d by decide +kernel)
theorem dL_law_477 : decode cL_law 477 = .ok (.invokestatic 140, 3) := sh_b8 (show cL_law.data.toList[477]? = some 0xb8 by decide +kernel) (show cL_law.data.toList[478]? = some 0x00 by decide +kernel) (show cL_law.data.toList[479]? = some 0x8c by decide +kernel) rfl
theorem dL_law_480 : decode cL_law 480 = .ok (.istore 5, 2) := sh_36 (show cL_law.data.toList[480]? = some 0x36 by decide +kernel) (show cL_law.data.toList[481]? = some 0x05 by decide +kernel) rfl
theorem dL_law_482 : decode cL_law 482 = .ok (.aload_n 2, 1) := sh_2c (show cL_law.data.toList[482]? = some 0x2c by decide +kernel)
theorem dL_law_483 : decode cL_law 483 = .ok (.aload_n 0, 1) := sh_2a (show cL_law.data.toList[483]? = some 0x2a by decide +kernel)
theorem dL_law_484 : decode cL_law 484 = .ok (.iload 4, 2) := sh_15 (show cL_law.data.toList[484]? = some 0x15 by decide +kernel) (show cL_law.data.toList[485]? = some 0x04 by decide +kernel) rfl
theorem dL_law_486 : decode cL_law 486 = .ok (.iconst 1, 1) := sh_04 (show cL_law.data.toList[486]? = some 0x04 by decide +kernel)
theorem dL_law_487 : decode cL_law 487 = .ok (.iadd, 1) := sh_60 (show cL_law.data.toList[487]? = some 0x60 by decide +kernel)
theorem dL_law_488 : decode cL_law 488 = .ok (.iaload, 1) := sh_2e (show cL_law.data.toList[488]? = some 0x2e by decide +kernel)
theorem dL_law_489 : decode cL_law 489 = .ok (.aload_n 0, 1) := sh_2a (show cL_law.data.toList[489]? = some 0x2a by decide +kernel)
theorem dL_law_490 : decode cL_law 490 = .ok (.iload 4, 2) := sh_15 (show cL_law.data.toList[490]? = some 0x15 by decide +kernel) (show cL_law.data.toList[491]? = some 0x04 by decide +kernel) rfl
theorem dL_law_492 : decode cL_law 492 = .ok (.iconst 2, 1) := sh_05 (show cL_law.data.toList[492]? = some 0x05 by decide +kernel)
theorem dL_law_493 : decode cL_law 493 = .ok (.iadd, 1) := sh_60 (show cL_law.data.toList[493]? = some 0x60 by decide +kernel)
theorem dL_law_494 : decode cL_law 494 = .ok (.iaload, 1) := sh_2e (show cL_law.data.toList[494]? = some 0x2e by decide +kernel)
theorem dL_law_495 : decode cL_law 495 = .ok (.aload_n 0, 1) := sh_2a (show cL_law.data.toList[495]? = some 0x2a by decide +kernel)
theorem dL_law_496 : decode cL_law 496 = .ok (.iload 4, 2) := sh_15 (show cL_law.data.toList[496]? = some 0x15 by decide +kernel) (show cL_law.data.toList[497]? = some 0x04 by decide +kernel) rfl
theorem dL_law_498 : decode cL_law 498 = .ok (.iconst 3, 1) := sh_06 (show cL_law.data.toList[498]? = some 0x06 by decide +kernel)
theorem dL_law_499 : decode cL_law 499 = .ok (.iadd, 1) := sh_60 (show cL_law.data.toList[499]? = some 0x60 by decide +kernel)
theorem dL_law_500 : decode cL_law 500 = .ok (.iaload, 1) := sh_2e (show cL_law.data.toList[500]? = some 0x2e by decide +kernel)
theorem dL_law_501 : decode cL_law 501 = .ok (.ifCond .eq 7, 3) := sh_99 (n := 7) (show cL_law.data.toList[501]? = some 0x99 by decide +kernel) (show cL_law.data.toList[502]? = some 0x00 by decide +kernel) (show cL_law.data.toList[503]? = some 0x07 by decide +kernel) rfl (by decide)
theorem dL_law_504 : decode cL_law 504 = .ok (.iconst 1, 1) := sh_04 (show cL_law.data.toList[504]? = some 0x04 by decide +kernel)
theorem dL_law_505 : decode cL_law 505 = .ok (.goto 4, 3) := sh_a7 (n := 4) (show cL_law.data.toList[505]? = some 0xa7 by decide +kernel) (show cL_law.data.toList[506]? = some 0x00 by decide +kernel) (show cL_law.data.toList[507]? = some 0x04 by decide +kernel) rfl (by decide)
theorem dL_law_508 : decode cL_law 508 = .ok (.iconst 0, 1) := sh_03 (show cL_law.data.toList[508]? = some 0x03 by decide +kernel)
theorem dL_law_509 : decode cL_law 509 = .ok (.invokevirtual 143, 3) := sh_b6 (show cL_law.data.toList[509]? = some 0xb6 by decide +kernel) (show cL_law.data.toList[510]? = some 0x00 by decide +kernel) (show cL_law.data.toList[511]? = some 0x8f by decide +kernel) rfl
theorem dL_law_512 : decode cL_law 512 = .ok (.istore 6, 2) := sh_36 (show cL_law.data.toList[512]? = some 0x36 by decide +kernel) (show cL_law.data.toList[513]? = some 0x06 by decide +kernel) rfl
theorem dL_law_514 : decode cL_law 514 = .ok (.goto 1024, 3) := sh_a7 (n := 1024) (show cL_law.data.toList[514]? = some 0xa7 by decide +kernel) (show cL_law.data.toList[515]? = some 0x04 by decide +kernel) (show cL_law.data.toList[516]? = some 0x00 by decide +kernel) rfl (by decide)
theorem dL_law_517 : decode cL_law 517 = .ok (.aload_n 1, 1) := sh_2b (show cL_law.data.toList[517]? = some 0x2b by decide +kernel)
theorem dL_law_518 : decode cL_law 518 = .ok (.aload_n 0, 1) := sh_2a (show cL_law.data.toList[518]? = some 0x2a by decide +kernel)
theorem dL_law_519 : decode cL_law 519 = .ok (.iload 4, 2) := sh_15 (show cL_law.data.toList[519]? = some 0x15 by decide +kernel) (show cL_law.data.toList[520]? = some 0x04 by decide +kernel) rfl
theorem dL_law_521 : decode cL_law 521 = .ok (.iconst 1, 1) := sh_04 (show cL_law.data.toList[521]? = some 0x04 by decide +kernel)
theorem dL_law_522 : decode cL_law 522 = .ok (.iadd, 1) := sh_60 (show cL_law.data.toList[522]? = some 0x60 by decide +kernel)
theorem dL_law_523 : decode cL_law 523 = .ok (.iaload, 1) := sh_2e (show cL_law.data.toList[523]? = some 0x2e by decide +kernel)
theorem dL_law_524 : decode cL_law 524 = .ok (.aload_n 0, 1) := sh_2a (show cL_law.data.toList[524]? = some 0x2a by decide +kernel)
theorem dL_law_525 : decode cL_law 525 = .ok (.iload 4, 2) := sh_15 (show cL_law.data.toList[525]? = some 0x15 by decide +kernel) (show cL_law.data.toList[526]? = some 0x04 by decide +kernel) rfl
theorem dL_law_527 : decode cL_law 527 = .ok (.iconst 2, 1) := sh_05 (show cL_law.data.toList[527]? = some 0x05 by decide +kernel)
theorem dL_law_528 : decode cL_law 528 = .ok (.iadd, 1) := sh_60 (show cL_law.data.toList[528]? = some 0x60 by decide +kernel)
theorem dL_law_529 : decode cL_law 529 = .ok (.iaload, 1) := sh_2e (show cL_law.data.toList[529]? = some 0x2e by decide +kernel)
theorem dL_law_530 : decode cL_law 530 = .ok (.aload_n 0, 1) := sh_2a (show cL_law.data.toList[530]? = some 0x2a by decide +kernel)
theorem dL_law_531 : decode cL_law 531 = .ok (.iload 4, 2) := sh_15 (show cL_law.data.toList[531]? = some 0x15 by decide +kernel) (show cL_law.data.toList[532]? = some 0x04 by decide +kernel) rfl
theorem dL_law_533 : decode cL_law 533 = .ok (.iconst 3, 1) := sh_06 (show cL_law.data.toList[533]? = some 0x06 by decide +kernel)
theorem dL_law_534 : decode cL_law 534 = .ok (.iadd, 1) := sh_60 (show cL_law.data.toList[534]? = some 0x60 by decide +kernel)
theorem dL_law_535 : decode cL_law 535 = .ok (.iaload, 1) := sh_2e (show cL_law.data.toList[535]? = some 0x2e by decide +kernel)
theorem dL_law_536 : decode cL_law 536 = .ok (.ifCond .eq 7, 3) := sh_99 (n := 7) (show cL_law.data.toList[536]? = some 0x99 by decide +kernel) (show cL_law.data.toList[537]? = some 0x00 by decide +kernel) (show cL_law.data.toList[538]? = some 0x07 by decide +kernel) rfl (by decide)
theorem dL_law_539 : decode cL_law 539 = .ok (.iconst 1, 1) := sh_04 (show cL_law.data.toList[539]? = some 0x04 by decide +kernel)
theorem dL_law_540 : decode cL_law 540 = .ok (.goto 4, 3) := sh_a7 (n := 4) (show cL_law.data.toList[540]? = some 0xa7 by decide +kernel) (show cL_law.data.toList[541]? = some 0x00 by decide +kernel) (show cL_law.data.toList[542]? = some 0x04 by decide +kernel) rfl (by decide)
theorem dL_law_543 : decode cL_law 543 = .ok (.iconst 0, 1) := sh_03 (show cL_law.data.toList[543]? = some 0x03 by decide +kernel)
theorem dL_law_544 : decode cL_law 544 = .ok (.aload_n 3, 1) := sh_2d (show cL_law.data.toList[544]? = some 0x2d by decide +kernel)
theorem dL_law_545 : decode cL_law 545 = .ok (.invokestatic 144, 3) := sh_b8 (show cL_law.data.toList[545]? = some 0xb8 by decide +kernel) (show cL_law.data.toList[546]? = some 0x00 by decide +kernel) (show cL_law.data.toList[547]? = some 0x90 by decide +kernel) rfl
theorem dL_law_548 : decode cL_law 548 = .ok (.istore 5, 2) := sh_36 (show cL_law.data.toList[548]? = some 0x36 by decide +kernel) (show cL_law.data.toList[549]? = some 0x05 by decide +kernel) rfl
theorem dL_law_550 : decode cL_law 550 = .ok (.aload_n 2, 1) := sh_2c (show cL_law.data.toList[550]? = some 0x2c by decide +kernel)
theorem dL_law_551 : decode cL_law 551 = .ok (.aload_n 0, 1) := sh_2a (show cL_law.data.toList[551]? = some 0x2a by decide +kernel)
theorem dL_law_552 : decode cL_law 552 = .ok (.iload 4, 2) := sh_15 (show cL_law.data.toList[552]? = some 0x15 by decide +kernel) (show cL_law.data.toList[553]? = some 0x04 by decide +kernel) rfl
theorem dL_law_554 : decode cL_law 554 = .ok (.iconst 1, 1) := sh_04 (show cL_law.data.toList[554]? = some 0x04 by decide +kernel)
theorem dL_law_555 : decode cL_law 555 = .ok (.iadd, 1) := sh_60 (show cL_law.data.toList[555]? = some 0x60 by decide +kernel)
theorem dL_law_556 : decode cL_law 556 = .ok (.iaload, 1) := sh_2e (show cL_law.data.toList[556]? = some 0x2e by decide +kernel)
theorem dL_law_557 : decode cL_law 557 = .ok (.aload_n 0, 1) := sh_2a (show cL_law.data.toList[557]? = some 0x2a by decide +kernel)
theorem dL_law_558 : decode cL_law 558 = .ok (.iload 4, 2) := sh_15 (show cL_law.data.toList[558]? = some 0x15 by decide +kernel) (show cL_law.data.toList[559]? = some 0x04 by decide +kernel) rfl
theorem dL_law_560 : decode cL_law 560 = .ok (.iconst 2, 1) := sh_05 (show cL_law.data.toList[560]? = some 0x05 by decide +kernel)
theorem dL_law_561 : decode cL_law 561 = .ok (.iadd, 1) := sh_60 (show cL_law.data.toList[561]? = some 0x60 by decide +kernel)
theorem dL_law_562 : decode cL_law 562 = .ok (.iaload, 1) := sh_2e (show cL_law.data.toList[562]? = some 0x2e by decide +kernel)
theorem dL_law_563 : decode cL_law 563 = .ok (.aload_n 0, 1) := sh_2a (show cL_law.data.toList[563]? = some 0x2a by decide +kernel)
theorem dL_law_564 : decode cL_law 564 = .ok (.iload 4, 2) := sh_15 (show cL_law.data.toList[564]? = some 0x15 by decide +kernel) (show cL_law.data.toList[565]? = some 0x04 by decide +kernel) rfl
theorem dL_law_566 : decode cL_law 566 = .ok (.iconst 3, 1) := sh_06 (show cL_law.data.toList[566]? = some 0x06 by decide +kernel)
theorem dL_law_567 : decode cL_law 567 = .ok (.iadd, 1) := sh_60 (show cL_law.data.toList[567]? = some 0x60 by decide +kernel)
theorem dL_law_568 : decode cL_law 568 = .ok (.iaload, 1) := sh_2e (show cL_law.data.toList[568]? = some 0x2e by decide +kernel)
theorem dL_law_569 : decode cL_law 569 = .ok (.ifCond .eq 7, 3) := sh_99 (n := 7) (show cL_law.data.toList[569]? = some 0x99 by decide +kernel) (show cL_law.data.toList[570]? = some 0x00 by decide +kernel) (show cL_law.data.toList[571]? = some 0x07 by decide +kernel) rfl (by decide)
theorem dL_law_572 : decode cL_law 572 = .ok (.iconst 1, 1) := sh_04 (show cL_law.data.toList[572]? = some 0x04 by decide +kernel)
theorem dL_law_573 : decode cL_law 573 = .ok (.goto 4, 3) := sh_a7 (n := 4) (show cL_law.data.toList[573]? = some 0xa7 by decide +kernel) (show cL_law.data.toList[574]? = some 0x00 by decide +kernel) (show cL_law.data.toList[575]? = some 0x04 by decide +kernel) rfl (by decide)
theorem dL_law_576 : decode cL_law 576 = .ok (.iconst 0, 1) := sh_03 (show cL_law.data.toList[576]? = some 0x03 by decide +kernel)
theorem dL_law_577 : decode cL_law 577 = .ok (.invokevirtual 146, 3) := sh_b6 (show cL_law.data.toList[577]? = some 0xb6 by decide +kernel) (show cL_law.data.toList[578]? = some 0x00 by decide +kernel) (show cL_law.data.toList[579]? = some 0x92 by decide +kernel) rfl
theorem dL_law_580 : decode cL_law 580 = .ok (.istore 6, 2) := sh_36 (show cL_law.data.toList[580]? = some 0x36 by decide +kernel) (show cL_law.data.toList[581]? = some 0x06 by decide +kernel) rfl
theorem dL_law_582 : decode cL_law 582 = .ok (.goto 956, 3) := sh_a7 (n := 956) (show cL_law.data.toList[582]? = some 0xa7 by decide +kernel) (show cL_law.data.toList[583]? = some 0x03 by decide +kernel) (show cL_law.data.toList[584]? = some 0xbc by decide +kernel) rfl (by decide)
theorem dL_law_585 : decode cL_law 585 = .ok (.aload_n 1, 1) := sh_2b (show cL_law.data.toList[585]? = some 0x2b by decide +kernel)
theorem dL_law_586 : decode cL_law 586 = .ok (.aload_n 0, 1) := sh_2a (show cL_law.data.toList[586]? = some 0x2a by decide +kernel)
theorem dL_law_587 : decode cL_law 587 = .ok (.iload 4, 2) := sh_15 (show cL_law.data.toList[587]? = some 0x15 by decide +kernel) (show cL_law.data.toList[588]? = some 0x04 by decide +kernel) rfl
theorem dL_law_589 : decode cL_law 589 = .ok (.iconst 1, 1) := sh_04 (show cL_law.data.toList[589]? = some 0x04 by decide +kernel)
theorem dL_law_590 : decode cL_law 590 = .ok (.iadd, 1) := sh_60 (show cL_law.data.toList[590]? = some 0x60 by decide +kernel)
theorem dL_law_591 : decode cL_law 591 = .ok (.iaload, 1) := sh_2e (show cL_law.data.toList[591]? = some 0x2e by decide +kernel)
theorem dL_law_592 : decode cL_law 592 = .ok (.aload_n 0, 1) := sh_2a (show cL_law.data.toList[592]? = some 0x2a by decide +kernel)
theorem dL_law_593 : decode cL_law 593 = .ok (.iload 4, 2) := sh_15 (show cL_law.data.toList[593]? = some 0x15 by decide +kernel) (show cL_law.data.toList[594]? = some 0x04 by decide +kernel) rfl
theorem dL_law_595 : decode cL_law 595 = .ok (.iconst 2, 1) := sh_05 (show cL_law.data.toList[595]? = some 0x05 by decide +kernel)
theorem dL_law_596 : decode cL_law 596 = .ok (.iadd, 1) := sh_60 (show cL_law.data.toList[596]? = some 0x60 by decide +kernel)
theorem dL_law_597 : decode cL_law 597 = .ok (.iaload, 1) := sh_2e (show cL_law.data.toList[597]? = some 0x2e by decide +kernel)
theorem dL_law_598 : decode cL_law 598 = .ok (.aload_n 0, 1) := sh_2a (show cL_law.data.toList[598]? = some 0x2a by decide +kernel)
theorem dL_law_599 : decode cL_law 599 = .ok (.iload 4, 2) := sh_15 (show cL_law.data.toList[599]? = some 0x15 by decide +kernel) (show cL_law.data.toList[600]? = some 0x04 by decide +kernel) rfl
theorem dL_law_601 : decode cL_law 601 = .ok (.iconst 3, 1) := sh_06 (show cL_law.data.toList[601]? = some 0x06 by decide +kernel)
theorem dL_law_602 : decode cL_law 602 = .ok (.iadd, 1) := sh_60 (show cL_law.data.toList[602]? = some 0x60 by decide +kernel)
theorem dL_law_603 : decode cL_law 603 = .ok (.iaload, 1) := sh_2e (show cL_law.data.toList[603]? = some 0x2e by decide +kernel)
theorem dL_law_604 : decode cL_law 604 = .ok (.ifCond .eq 7, 3) := sh_99 (n := 7) (show cL_law.data.toList[604]? = some 0x99 by decide +kernel) (show cL_law.data.toList[605]? = some 0x00 by decide +kernel) (show cL_law.data.toList[606]? = some 0x07 by decide +kernel) rfl (by decide)
theorem dL_law_607 : decode cL_law 607 = .ok (.iconst 1, 1) := sh_04 (show cL_law.data.toList[607]? = some 0x04 by decide +kernel)
theorem dL_law_608 : decode cL_law 608 = .ok (.goto 4, 3) := sh_a7 (n := 4) (show cL_law.data.toList[608]? = some 0xa7 by decide +kernel) (show cL_law.data.toList[609]? = some 0x00 by decide +kernel) (show cL_law.data.toList[610]? = some 0x04 by decide +kernel) rfl (by decide)
theorem dL_law_611 : decode cL_law 611 = .ok (.iconst 0, 1) := sh_03 (show cL_law.data.toList[611]? = some 0x03 by decide +kernel)
theorem dL_law_612 : decode cL_law 612 = .ok (.aload_n 3, 1) := sh_2d (show cL_law.data.toList[612]? = some 0x2d by decide +kernel)
theorem dL_law_613 : decode cL_law 613 = .ok (.invokestatic 147, 3) := sh_b8 (show cL_law.data.toList[613]? = some 0xb8 by decide +kernel) (show cL_law.data.toList[614]? = some 0x00 by decide +kernel) (show cL_law.data.toList[615]? = some 0x93 by decide +kernel) rfl
theorem dL_law_616 : decode cL_law 616 = .ok (.istore 5, 2) := sh_36 (show cL_law.data.toList[616]? = some 0x36 by decide +kernel) (show cL_law.data.toList[617]? = some 0x05 by decide +kernel) rfl
theorem dL_law_618 : decode cL_law 618 = .ok (.aload_n 2, 1) := sh_2c (show cL_law.data.toList[618]? = some 0x2c by decide +kernel)
theorem dL_law_619 : decode cL_law 619 = .ok (.aload_n 0, 1) := sh_2a (show cL_law.data.toList[619]? = some 0x2a by decide +kernel)
theorem dL_law_620 : decode cL_law 620 = .ok (.iload 4, 2) := sh_15 (show cL_law.data.toList[620]? = some 0x15 by decide +kernel) (show cL_law.data.toList[621]? = some 0x04 by decide +kernel) rfl
theorem dL_law_622 : decode cL_law 622 = .ok (.iconst 1, 1) := sh_04 (show cL_law.data.toList[622]? = some 0x04 by decide +kernel)
theorem dL_law_623 : decode cL_law 623 = .ok (.iadd, 1) := sh_60 (show cL_law.data.toList[623]? = some 0x60 by decide +kernel)
theorem dL_law_624 : decode cL_law 624 = .ok (.iaload, 1) := sh_2e (show cL_law.data.toList[624]? = some 0x2e by decide +kernel)
theorem dL_law_625 : decode cL_law 625 = .ok (.aload_n 0, 1) := sh_2a (show cL_law.data.toList[625]? = some 0x2a by decide +kernel)
theorem dL_law_626 : decode cL_law 626 = .ok (.iload 4, 2) := sh_15 (show cL_law.data.toList[626]? = some 0x15 by decide +kernel) (show cL_law.data.toList[627]? = some 0x04 by decide +kernel) rfl
theorem dL_law_628 : decode cL_law 628 = .ok (.iconst 2, 1) := sh_05 (show cL_law.data.toList[628]? = some 0x05 by decide +kernel)
theorem dL_law_629 : decode cL_law 629 = .ok (.iadd, 1) := sh_60 (show cL_law.data.toList[629]? = some 0x60 by decide +kernel)
theorem dL_law_630 : decode cL_law 630 = .ok (.iaload, 1) := sh_2e (show cL_law.data.toList[630]? = some 0x2e by decide +kernel)
theorem dL_law_631 : decode cL_law 631 = .ok (.aload_n 0, 1) := sh_2a (show cL_law.data.toList[631]? = some 0x2a by decide +kernel)
theorem dL_law_632 : decode cL_law 632 = .ok (.iload 4, 2) := sh_15 (show cL_law.data.toList[632]? = some 0x15 by decide +kernel) (show cL_law.data.toList[633]? = some 0x04 by decide +kernel) rfl
theorem dL_law_634 : decode cL_law 634 = .ok (.iconst 3, 1) := sh_06 (show cL_law.data.toList[634]? = some 0x06 by decide +kernel)
theorem dL_law_635 : decode cL_law 635 = .ok (.iadd, 1) := sh_60 (show cL_law.data.toList[635]? = some 0x60 by decide +kernel)
theorem dL_law_636 : decode cL_law 636 = .ok (.iaload, 1) := sh_2e (show cL_law.data.toList[636]? = some 0x2e by decide +kernel)
theorem dL_law_637 : decode cL_law 637 = .ok (.ifCond .eq 7, 3) := sh_99 (n := 7) (show cL_law.data.toList[637]? = some 0x99 by decide +kernel) (show cL_law.data.toList[638]? = some 0x00 by decide +kernel) (show cL_law.data.toList[639]? = some 0x07 by decide +kernel) rfl (by decide)
theorem dL_law_640 : decode cL_law 640 = .ok (.iconst 1, 1) := sh_04 (show cL_law.data.toList[640]? = some 0x04 by decide +kernel)
theorem dL_law_641 : decode cL_law 641 = .ok (.goto 4, 3) := sh_a7 (n := 4) (show cL_law.data.toList[641]? = some 0xa7 by decide +kernel) (show cL_law.data.toList[642]? = some 0x00 by decide +kernel) (show cL_law.data.toList[643]? = some 0x04 by decide +kernel) rfl (by decide)
theorem dL_law_644 : decode cL_law 644 = .ok (.iconst 0, 1) := sh_03 (show cL_law.data.toList[644]? = some 0x03 by decide +kernel)
theorem dL_law_645 : decode cL_law 645 = .ok (.invokevirtual 149, 3) := sh_b6 (show cL_law.data.toList[645]? = some 0xb6 by decide +kernel) (show cL_law.data.toList[646]? = some 0x00 by decide +kernel) (show cL_law.data.toList[647]? = some 0x95 by decide +kernel) rfl
theorem dL_law_648 : decode cL_law 648 = .ok (.istore 6, 2) := sh_36 (show cL_law.data.toList[648]? = some 0x36 by decide +kernel) (show cL_law.data.toList[649]? = some 0x06 by decide +kernel) rfl
theorem dL_law_650 : decode cL_law 650 = .ok (.goto 888, 3) := sh_a7 (n := 888) (show cL_law.data.toList[650]? = some 0xa7 by decide +kernel) (show cL_law.data.toList[651]? = some 0x03 by decide +kernel) (show cL_law.data.toList[652]? = some 0x78 by decide +kernel) rfl (by decide)
theorem dL_law_653 : decode cL_law 653 = .ok (.aload_n 1, 1) := sh_2b (show cL_law.data.toList[653]? = some 0x2b by decide +kernel)
theorem dL_law_654 : decode cL_law 654 = .ok (.aload_n 0, 1) := sh_2a (show cL_law.data.toList[654]? = some 0x2a by decide +kernel)
theorem dL_law_655 : decode cL_law 655 = .ok (.iload 4, 2) := sh_15 (show cL_law.data.toList[655]? = some 0x15 by decide +kernel) (show cL_law.data.toList[656]? = some 0x04 by decide +kernel) rfl
theorem dL_law_657 : decode cL_law 657 = .ok (.iconst 1, 1) := sh_04 (show cL_law.data.toList[657]? = some 0x04 by decide +kernel)
theorem dL_law_658 : decode cL_law 658 = .ok (.iadd, 1) := sh_60 (show cL_law.data.toList[658]? = some 0x60 by decide +kernel)
theorem dL_law_659 : decode cL_law 659 = .ok (.iaload, 1) := sh_2e (show cL_law.data.toList[659]? = some 0x2e by decide +kernel)
theorem dL_law_660 : decode cL_law 660 = .ok (.aload_n 0, 1) := sh_2a (show cL_law.data.toList[660]? = some 0x2a by decide +kernel)
theorem dL_law_661 : decode cL_law 661 = .ok (.iload 4, 2) := sh_15 (show cL_law.data.toList[661]? = some 0x15 by decide +kernel) (show cL_law.data.toList[662]? = some 0x04 by decide +kernel) rfl
theorem dL_law_663 : decode cL_law 663 = .ok (.iconst 2, 1) := sh_05 (show cL_law.data.toList[663]? = some 0x05 by decide +kernel)
theorem dL_law_664 : decode cL_law 664 = .ok (.iadd, 1) := sh_60 (show cL_law.data.toList[664]? = some 0x60 by decide +kernel)
theorem dL_law_665 : decode cL_law 665 = .ok (.iaload, 1) := sh_2e (show cL_law.data.toList[665]? = some 0x2e by decide +kernel)
theorem dL_law_666 : decode cL_law 666 = .ok (.aload_n 0, 1) := sh_2a (show cL_law.data.toList[666]? = some 0x2a by decide +kernel)
theorem dL_law_667 : decode cL_law 667 = .ok (.iload 4, 2) := sh_15 (show cL_law.data.toList[667]? = some 0x15 by decide +kernel) (show cL_law.data.toList[668]? = some 0x04 by decide +kernel) rfl
theorem dL_law_669 : decode cL_law 669 = .ok (.iconst 3, 1) := sh_06 (show cL_law.data.toList[669]? = some 0x06 by decide +kernel)
theorem dL_law_670 : decode cL_law 670 = .ok (.iadd, 1) := sh_60 (show cL_law.data.toList[670]? = some 0x60 by decide +kernel)
theorem dL_law_671 : decode cL_law 671 = .ok (.iaload, 1) := sh_2e (show cL_law.data.toList[671]? = some 0x2e by decide +kernel)
theorem dL_law_672 : decode cL_law 672 = .ok (.ifCond .eq 7, 3) := sh_99 (n := 7) (show cL_law.data.toList[672]? = some 0x99 by decide +kernel) (show cL_law.data.toList[673]? = some 0x00 by decide +kernel) (show cL_law.data.toList[674]? = some 0x07 by decide +kernel) rfl (by decide)
theorem dL_law_675 : decode cL_law 675 = .ok (.iconst 1, 1) := sh_04 (show cL_law.data.toList[675]? = some 0x04 by decide +kernel)
theorem dL_law_676 : decode cL_law 676 = .ok (.goto 4, 3) := sh_a7 (n := 4) (show cL_law.data.toList[676]? = some 0xa7 by decide +kernel) (show cL_law.data.toList[677]? = some 0x00 by decide +kernel) (show cL_law.data.toList[678]? = some 0x04 by decide +kernel) rfl (by decide)
theorem dL_law_679 : decode cL_law 679 = .ok (.iconst 0, 1) := sh_03 (show cL_law.data.toList[679]? = some 0x03 by decide +kernel)
theorem dL_law_680 : decode cL_law 680 = .ok (.aload_n 3, 1) := sh_2d (show cL_law.data.toList[680]? = some 0x2d by decide +kernel)
theorem dL_law_681 : decode cL_law 681 = .ok (.invokestatic 150, 3) := sh_b8 (show cL_law.data.toList[681]? = some 0xb8 by decide +kernel) (show cL_law.data.toList[682]? = some 0x00 by decide +kernel) (show cL_law.data.toList[683]? = some 0x96 by decide +kernel) rfl
theorem dL_law_684 : decode cL_law 684 = .ok (.istore 5, 2) := sh_36 (show cL_law.data.toList[684]? = some 0x36 by decide +kernel) (show cL_law.data.toList[685]? = some 0x05 by decide +kernel) rfl
theorem dL_law_686 : decode cL_law 686 = .ok (.aload_n 2, 1) := sh_2c (show cL_law.data.toList[686]? = some 0x2c by decide +kernel)
theorem dL_law_687 : decode cL_law 687 = .ok (.aload_n 0, 1) := sh_2a (show cL_law.data.toList[687]? = some 0x2a by decide +kernel)
theorem dL_law_688 : decode cL_law 688 = .ok (.iload 4, 2) := sh_15 (show cL_law.data.toList[688]? = some 0x15 by decide +kernel) (show cL_law.data.toList[689]? = some 0x04 by decide +kernel) rfl
theorem dL_law_690 : decode cL_law 690 = .ok (.iconst 1, 1) := sh_04 (show cL_law.data.toList[690]? = some 0x04 by decide +kernel)
theorem dL_law_691 : decode cL_law 691 = .ok (.iadd, 1) := sh_60 (show cL_law.data.toList[691]? = some 0x60 by decide +kernel)
theorem dL_law_692 : decode cL_law 692 = .ok (.iaload, 1) := sh_2e (show cL_law.data.toList[692]? = some 0x2e by decide +kernel)
theorem dL_law_693 : decode cL_law 693 = .ok (.aload_n 0, 1) := sh_2a (show cL_law.data.toList[693]? = some 0x2a by decide +kernel)
theorem dL_law_694 : decode cL_law 694 = .ok (.iload 4, 2) := sh_15 (show cL_law.data.toList[694]? = some 0x15 by decide +kernel) (show cL_law.data.toList[695]? = some 0x04 by decide +kernel) rfl
theorem dL_law_696 : decode cL_law 696 = .ok (.iconst 2, 1) := sh_05 (show cL_law.data.toList[696]? = some 0x05 by decide +kernel)
theorem dL_law_697 : decode cL_law 697 = .ok (.iadd, 1) := sh_60 (show cL_law.data.toList[697]? = some 0x60 by decide +kernel)
theorem dL_law_698 : decode cL_law 698 = .ok (.iaload, 1) := sh_2e (show cL_law.data.toList[698]? = some 0x2e by decide +kernel)
theorem dL_law_699 : decode cL_law 699 = .ok (.aload_n 0, 1) := sh_2a (show cL_law.data.toList[699]? = some 0x2a by decide +kernel)
theorem dL_law_700 : decode cL_law 700 = .ok (.iload 4, 2) := sh_15 (show cL_law.data.toList[700]? = some 0x15 by decide +kernel) (show cL_law.data.toList[701]? = some 0x04 by decide +kernel) rfl
theorem dL_law_702 : decode cL_law 702 = .ok (.iconst 3, 1) := sh_06 (show cL_law.data.toList[702]? = some 0x06 by decide +kernel)
theorem dL_law_703 : decode cL_law 703 = .ok (.iadd, 1) := sh_60 (show cL_law.data.toList[703]? = some 0x60 by decide +kernel)
theorem dL_law_704 : decode cL_law 704 = .ok (.iaload, 1) := sh_2e (show cL_law.data.toList[704]? = some 0x2e by decide +kernel)
theorem dL_law_705 : decode cL_law 705 = .ok (.ifCond .eq 7, 3) := sh_99 (n := 7) (show cL_law.data.toList[705]? = some 0x99 by decide +kernel) (show cL_law.data.toList[706]? = some 0x00 by decide +kernel) (show cL_law.data.toList[707]? = some 0x07 by decide +kernel) rfl (by decide)
theorem dL_law_708 : decode cL_law 708 = .ok (.iconst 1, 1) := sh_04 (show cL_law.data.toList[708]? = some 0x04 by decide +kernel)
theorem dL_law_709 : decode cL_law 709 = .ok (.goto 4, 3) := sh_a7 (n := 4) (show cL_law.data.toList[709]? = some 0xa7 by decide +kernel) (show cL_law.data.toList[710]? = some 0x00 by decide +kernel) (show cL_law.data.toList[711]? = some 0x04 by decide +kernel) rfl (by decide)
theorem dL_law_712 : decode cL_law 712 = .ok (.iconst 0, 1) := sh_03 (show cL_law.data.toList[712]? = some 0x03 by decide +kernel)
theorem dL_law_713 : decode cL_law 713 = .ok (.invokevirtual 152, 3) := sh_b6 (show cL_law.data.toList[713]? = some 0xb6 by decide +kernel) (show cL_law.data.toList[714]? = some 0x00 by decide +kernel) (show cL_law.data.toList[715]? = some 0x98 by decide +kernel) rfl
theorem dL_law_716 : decode cL_law 716 = .ok (.istore 6, 2) := sh_36 (show cL_law.data.toList[716]? = some 0x36 by decide +kernel) (show cL_law.data.toList[717]? = some 0x06 by decide +kernel) rfl
theorem dL_law_718 : decode cL_law 718 = .ok (.goto 820, 3) := sh_a7 (n := 820) (show cL_law.data.toList[718]? = some 0xa7 by decide +kernel) (show cL_law.data.toList[719]? = some 0x03 by decide +kernel) (show cL_law.data.toList[720]? = some 0x34 by decide +kernel) rfl (by decide)
theorem dL_law_721 : decode cL_law 721 = .ok (.aload_n 1, 1) := sh_2b (show cL_law.data.toList[721]? = some 0x2b by decide +kernel)
theorem dL_law_722 : decode cL_law 722 = .ok (.aload_n 0, 1) := sh_2a (show cL_law.data.toList[722]? = some 0x2a by decide +kernel)
theorem dL_law_723 : decode cL_law 723 = .ok (.iload 4, 2) := sh_15 (show cL_law.data.toList[723]? = some 0x15 by decide +kernel) (show cL_law.data.toList[724]? = some 0x04 by decide +kernel) rfl
theorem dL_law_725 : decode cL_law 725 = .ok (.iconst 1, 1) := sh_04 (show cL_law.data.toList[725]? = some 0x04 by decide +kernel)
theorem dL_law_726 : decode cL_law 726 = .ok (.iadd, 1) := sh_60 (show cL_law.data.toList[726]? = some 0x60 by decide +kernel)
theorem dL_law_727 : decode cL_law 727 = .ok (.iaload, 1) := sh_2e (show cL_law.data.toList[727]? = some 0x2e by decide +kernel)
theorem dL_law_728 : decode cL_law 728 = .ok (.aload_n 0, 1) := sh_2a (show cL_law.data.toList[728]? = some 0x2a by decide +kernel)
theorem dL_law_729 : decode cL_law 729 = .ok (.iload 4, 2) := sh_15 (show cL_law.data.toList[729]? = some 0x15 by decide +kernel) (show cL_law.data.toList[730]? = some 0x04 by decide +kernel) rfl
theorem dL_law_731 : decode cL_law 731 = .ok (.iconst 2, 1) := sh_05 (show cL_law.data.toList[731]? = some 0x05 by decide +kernel)
theorem dL_law_732 : decode cL_law 732 = .ok (.iadd, 1) := sh_60 (show cL_law.data.toList[732]? = some 0x60 by decide +kernel)
theorem dL_law_733 : decode cL_law 733 = .ok (.iaload, 1) := sh_2e (show cL_law.data.toList[733]? = some 0x2e by decide +kernel)
theorem dL_law_734 : decode cL_law 734 = .ok (.ifCond .eq 7, 3) := sh_99 (n := 7) (show cL_law.data.toList[734]? = some 0x99 by decide +kernel) (show cL_law.data.toList[735]? = some 0x00 by decide +kernel) (show cL_law.data.toList[736]? = some 0x07 by decide +kernel) rfl (by decide)
theorem dL_law_737 : decode cL_law 737 = .ok (.iconst 1, 1) := sh_04 (show cL_law.data.toList[737]? = some 0x04 by decide +kernel)
theorem dL_law_738 : decode cL_law 738 = .ok (.goto 4, 3) := sh_a7 (n := 4) (show cL_law.data.toList[738]? = some 0xa7 by decide +kernel) (show cL_law.data.toList[739]? = some 0x00 by decide +kernel) (show cL_law.data.toList[740]? = some 0x04 by decide +kernel) rfl (by decide)
theorem dL_law_741 : decode cL_law 741 = .ok (.iconst 0, 1) := sh_03 (show cL_law.data.toList[741]? = some 0x03 by decide +kernel)
theorem dL_law_742 : decode cL_law 742 = .ok (.aload_n 0, 1) := sh_2a (show cL_law.data.toList[742]? = some 0x2a by decide +kernel)
theorem dL_law_743 : decode cL_law 743 = .ok (.iload 4, 2) := sh_15 (show cL_law.data.toList[743]? = some 0x15 by decide +kernel) (show cL_law.data.toList[744]? = some 0x04 by decide +kernel) rfl
theorem dL_law_745 : decode cL_law 745 = .ok (.iconst 3, 1) := sh_06 (show cL_law.data.toList[745]? = some 0x06 by decide +kernel)
theorem dL_law_746 : decode cL_law 746 = .ok (.iadd, 1) := sh_60 (show cL_law.data.toList[746]? = some 0x60 by decide +kernel)
theorem dL_law_747 : decode cL_law 747 = .ok (.iaload, 1) := sh_2e (show cL_law.data.toList[747]? = some 0x2e by decide +kernel)
theorem dL_law_748 : decode cL_law 748 = .ok (.ifCond .eq 7, 3) := sh_99 (n := 7) (show cL_law.data.toList[748]? = some 0x99 by decide +kernel) (show cL_law.data.toList[749]? = some 0x00 by decide +kernel) (show cL_law.data.toList[750]? = some 0x07 by decide +kernel) rfl (by decide)
theorem dL_law_751 : decode cL_law 751 = .ok (.iconst 1, 1) := sh_04 (show cL_law.data.toList[751]? = some 0x04 by decide +kernel)
theorem dL_law_752 : decode cL_law 752 = .ok (.goto 4, 3) := sh_a7 (n := 4) (show cL_law.data.toList[752]? = some 0xa7 by decide +kernel) (show cL_law.data.toList[753]? = some 0x00 by decide +kernel) (show cL_law.data.toList[754]? = some 0x04 by decide +kernel) rfl (by decide)
theorem dL_law_755 : decode cL_law 755 = .ok (.iconst 0, 1) := sh_03 (show cL_law.data.toList[755]? = some 0x03 by decide +kernel)
theorem dL_law_756 : decode cL_law 756 = .ok (.aload_n 3, 1) := sh_2d (show cL_law.data.toList[756]? = some 0x2d by decide +kernel)
theorem dL_law_757 : decode cL_law 757 = .ok (.invokestatic 153, 3) := sh_b8 (show cL_law.data.toList[757]? = some 0xb8 by decide +kernel) (show cL_law.data.toList[758]? = some 0x00 by decide +kernel) (show cL_law.data.toList[759]? = some 0x99 by decide +kernel) rfl
theorem dL_law_760 : decode cL_law 760 = .ok (.istore 5, 2) := sh_36 (show cL_law.data.toList[760]? = some 0x36 by decide +kernel) (show cL_law.data.toList[761]? = some 0x05 by decide +kernel) rfl
theorem dL_law_762 : decode cL_law 762 = .ok (.aload_n 2, 1) := sh_2c (show cL_law.data.toList[762]? = some 0x2c by decide +kernel)
theorem dL_law_763 : decode cL_law 763 = .ok (.aload_n 0, 1) := sh_2a (show cL_law.data.toList[763]? = some 0x2a by decide +kernel)
theorem dL_law_764 : decode cL_law 764 = .ok (.iload 4, 2) := sh_15 (show cL_law.data.toList[764]? = some 0x15 by decide +kernel) (show cL_law.data.toList[765]? = some 0x04 by decide +kernel) rfl
theorem dL_law_766 : decode cL_law 766 = .ok (.iconst 1, 1) := sh_04 (show cL_law.data.toList[766]? = some 0x04 by decide +kernel)
theorem dL_law_767 : decode cL_law 767 = .ok (.iadd, 1) := sh_60 (show cL_law.data.toList[767]? = some 0x60 by decide +kernel)
theorem dL_law_768 : decode cL_law 768 = .ok (.iaload, 1) := sh_2e (show cL_law.data.toList[768]? = some 0x2e by decide +kernel)
theorem dL_law_769 : decode cL_law 769 = .ok (.aload_n 0, 1) := sh_2a (show cL_law.data.toList[769]? = some 0x2a by decide +kernel)
theorem dL_law_770 : decode cL_law 770 = .ok (.iload 4, 2) := sh_15 (show cL_law.data.toList[770]? = some 0x15 by decide +kernel) (show cL_law.data.toList[771]? = some 0x04 by decide +kernel) rfl
theorem dL_law_772 : decode cL_law 772 = .ok (.iconst 2, 1) := sh_05 (show cL_law.data.toList[772]? = some 0x05 by decide +kernel)
theorem dL_law_773 : decode cL_law 773 = .ok (.iadd, 1) := sh_60 (show cL_law.data.toList[773]? = some 0x60 by decide +kernel)
theorem dL_law_774 : decode cL_law 774 = .ok (.iaload, 1) := sh_2e (show cL_law.data.toList[774]? = some 0x2e by decide +kernel)
theorem dL_law_775 : decode cL_law 775 = .ok (.ifCond .eq 7, 3) := sh_99 (n := 7) (show cL_law.data.toList[775]? = some 0x99 by decide +kernel) (show cL_law.data.toList[776]? = some 0x00 by decide +kernel) (show cL_law.data.toList[777]? = some 0x07 by decide +kernel) rfl (by decide)
theorem dL_law_778 : decode cL_law 778 = .ok (.iconst 1, 1) := sh_04 (show cL_law.data.toList[778]? = some 0x04 by decide +kernel)
theorem dL_law_779 : decode cL_law 779 = .ok (.goto 4, 3) := sh_a7 (n := 4) (show cL_law.data.toList[779]? = some 0xa7 by decide +kernel) (show cL_law.data.toList[780]? = some 0x00 by decide +kernel) (show cL_law.data.toList[781]? = some 0x04 by decide +kernel) rfl (by decide)
theorem dL_law_782 : decode cL_law 782 = .ok (.iconst 0, 1) := sh_03 (show cL_law.data.toList[782]? = some 0x03 by decide +kernel)
theorem dL_law_783 : decode cL_law 783 = .ok (.aload_n 0, 1) := sh_2a (show cL_law.data.toList[783]? = some 0x2a by decide +kernel)
theorem dL_law_784 : decode cL_law 784 = .ok (.iload 4, 2) := sh_15 (show cL_law.data.toList[784]? = some 0x15 by decide +kernel) (show cL_law.data.toList[785]? = some 0x04 by decide +kernel) rfl
theorem dL_law_786 : decode cL_law 786 = .ok (.iconst 3, 1) := sh_06 (show cL_law.data.toList[786]? = some 0x06 by decide +kernel)
theorem dL_law_787 : decode cL_law 787 = .ok (.iadd, 1) := sh_60 (show cL_law.data.toList[787]? = some 0x60 by decide +kernel)
theorem dL_law_788 : decode cL_law 788 = .ok (.iaload, 1) := sh_2e (show cL_law.data.toList[788]? = some 0x2e by decide +kernel)
theorem dL_law_789 : decode cL_law 789 = .ok (.ifCond .eq 7, 3) := sh_99 (n := 7) (show cL_law.data.toList[789]? = some 0x99 by decide +kernel) (show cL_law.data.toList[790]? = some 0x00 by decide +kernel) (show cL_law.data.toList[791]? = some 0x07 by decide +kernel) rfl (by decide)
theorem dL_law_792 : decode cL_law 792 = .ok (.iconst 1, 1) := sh_04 (show cL_law.data.toList[792]? = some 0x04 by decide +kernel)
theorem dL_law_793 : decode cL_law 793 = .ok (.goto 4, 3) := sh_a7 (n := 4) (show cL_law.data.toList[793]? = some 0xa7 by decide +kernel) (show cL_law.data.toList[794]? = some 0x00 by decide +kernel) (show cL_law.data.toList[795]? = some 0x04 by decide +kernel) rfl (by decide)
theorem dL_law_796 : decode cL_law 796 = .ok (.iconst 0, 1) := sh_03 (show cL_law.data.toList[796]? = some 0x03 by decide +kernel)
theorem dL_law_797 : decode cL_law 797 = .ok (.invokevirtual 156, 3) := sh_b6 (show cL_law.data.toList[797]? = some 0xb6 by decide +kernel) (show cL_law.data.toList[798]? = some 0x00 by decide +kernel) (show cL_law.data.toList[799]? = some 0x9c by decide +kernel) rfl
theorem dL_law_800 : decode cL_law 800 = .ok (.istore 6, 2) := sh_36 (show cL_law.data.toList[800]? = some 0x36 by decide +kernel) (show cL_law.data.toList[801]? = some 0x06 by decide +kernel) rfl
theorem dL_law_802 : decode cL_law 802 = .ok (.goto 736, 3) := sh_a7 (n := 736) (show cL_law.data.toList[802]? = some 0xa7 by decide +kernel) (show cL_law.data.toList[803]? = some 0x02 by decide +kernel) (show cL_law.data.toList[804]? = some 0xe0 by decide +kernel) rfl (by decide)
theorem dL_law_805 : decode cL_law 805 = .ok (.aload_n 1, 1) := sh_2b (show cL_law.data.toList[805]? = some 0x2b by decide +kernel)
theorem dL_law_806 : decode cL_law 806 = .ok (.aload_n 0, 1) := sh_2a (show cL_law.data.toList[806]? = some 0x2a by decide +kernel)
theorem dL_law_807 : decode cL_law 807 = .ok (.iload 4, 2) := sh_15 (show cL_law.data.toList[807]? = some 0x15 by decide +kernel) (show cL_law.data.toList[808]? = some 0x04 by decide +kernel) rfl
theorem dL_law_809 : decode cL_law 809 = .ok (.iconst 1, 1) := sh_04 (show cL_law.data.toList[809]? = some 0x04 by decide +kernel)
theorem dL_law_810 : decode cL_law 810 = .ok (.iadd, 1) := sh_60 (show cL_law.data.toList[810]? = some 0x60 by decide +kernel)
theorem dL_law_811 : decode cL_law 811 = .ok (.iaload, 1) := sh_2e (show cL_law.data.toList[811]? = some 0x2e by decide +kernel)
theorem dL_law_812 : decode cL_law 812 = .ok (.aload_n 0, 1) := sh_2a (show cL_law.data.toList[812]? = some 0x2a by decide +kernel)
theorem dL_law_813 : decode cL_law 813 = .ok (.iload 4, 2) := sh_15 (show cL_law.data.toList[813]? = some 0x15 by decide +kernel) (show cL_law.data.toList[814]? = some 0x04 by decide +kernel) rfl
theorem dL_law_815 : decode cL_law 815 = .ok (.iconst 2, 1) := sh_05 (show cL_law.data.toList[815]? = some 0x05 by decide +kernel)
theorem dL_law_816 : decode cL_law 816 = .ok (.iadd, 1) := sh_60 (show cL_law.data.toList[816]? = some 0x60 by decide +kernel)
theorem dL_law_817 : decode cL_law 817 = .ok (.iaload, 1) := sh_2e (show cL_law.data.toList[817]? = some 0x2e by decide +kernel)
theorem dL_law_818 : decode cL_law 818 = .ok (.ifCond .eq 7, 3) := sh_99 (n := 7) (show cL_law.data.toList[818]? = some 0x99 by decide +kernel) (show cL_law.data.toList[819]? = some 0x00 by decide +kernel) (show cL_law.data.toList[820]? = some 0x07 by decide +kernel) rfl (by decide)
theorem dL_law_821 : decode cL_law 821 = .ok (.iconst 1, 1) := sh_04 (show cL_law.data.toList[821]? = some 0x04 by decide +kernel)
theorem dL_law_822 : decode cL_law 822 = .ok (.goto 4, 3) := sh_a7 (n := 4) (show cL_law.data.toList[822]? = some 0xa7 by decide +kernel) (show cL_law.data.toList[823]? = some 0x00 by decide +kernel) (show cL_law.data.toList[824]? = some 0x04 by decide +kernel) rfl (by decide)
theorem dL_law_825 : decode cL_law 825 = .ok (.iconst 0, 1) := sh_03 (show cL_law.data.toList[825]? = some 0x03 by decide +kernel)
theorem dL_law_826 : decode cL_law 826 = .ok (.aload_n 0, 1) := sh_2a (show cL_law.data.toList[826]? = some 0x2a by decide +kernel)
