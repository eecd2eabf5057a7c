section
def lw_okq (q : MethodName × Nat) : Prop := (q.1.cls ≠ "java/lang/invoke/MethodHandle" ∧ q.1.cls ≠ "java/lang/invoke/VarHandle") ∧ Cond.instantiable q.1.cls q.2 ∈ tables_1 ∧ Cond.privateMethod q.1 ∈ tables_1 ∧ Cond.instanceMethod q.1 ∈ tables_1
theorem lw_p0 : lw_okq (⟨"BitNumbers", "put", "(IJ)I"⟩, 4) := ⟨⟨by decide +kernel, by decide +kernel⟩, List.mem_of_getElem? (i := 18) (by decide +kernel), List.mem_of_getElem? (i := 45) (by decide +kernel), List.mem_of_getElem? (i := 46) (by decide +kernel)⟩
theorem lw_p1 : lw_okq (⟨"BitNumbers", "isThere", "(I)Z"⟩, 4) := ⟨⟨by decide +kernel, by decide +kernel⟩, List.mem_of_getElem? (i := 18) (by decide +kernel), List.mem_of_getElem? (i := 91) (by decide +kernel), List.mem_of_getElem? (i := 92) (by decide +kernel)⟩
theorem lw_p2 : lw_okq (⟨"java/lang/Throwable", "fillInStackTrace", "(I)Ljava/lang/Throwable;"⟩, 6) := ⟨⟨by decide +kernel, by decide +kernel⟩, List.mem_of_getElem? (i := 190) (by decide +kernel), List.mem_of_getElem? (i := 188) (by decide +kernel), List.mem_of_getElem? (i := 189) (by decide +kernel)⟩
theorem lw_p3 : lw_okq (⟨"BitNumbers", "areOnTop", "(II)Z"⟩, 4) := ⟨⟨by decide +kernel, by decide +kernel⟩, List.mem_of_getElem? (i := 18) (by decide +kernel), List.mem_of_getElem? (i := 245) (by decide +kernel), List.mem_of_getElem? (i := 246) (by decide +kernel)⟩
theorem lw_p4 : lw_okq (⟨"BitNumbersModel", "worked", "(IIJJ)J"⟩, 14) := ⟨⟨by decide +kernel, by decide +kernel⟩, List.mem_of_getElem? (i := 450) (by decide +kernel), List.mem_of_getElem? (i := 531) (by decide +kernel), List.mem_of_getElem? (i := 532) (by decide +kernel)⟩
theorem lw_p5 : lw_okq (⟨"BitNumbersModel", "whole", "(IIJJ)J"⟩, 14) := ⟨⟨by decide +kernel, by decide +kernel⟩, List.mem_of_getElem? (i := 450) (by decide +kernel), List.mem_of_getElem? (i := 587) (by decide +kernel), List.mem_of_getElem? (i := 588) (by decide +kernel)⟩
theorem lw_p6 : lw_okq (⟨"BitNumbersModel", "quotient", "(IIJJ)J"⟩, 14) := ⟨⟨by decide +kernel, by decide +kernel⟩, List.mem_of_getElem? (i := 450) (by decide +kernel), List.mem_of_getElem? (i := 603) (by decide +kernel), List.mem_of_getElem? (i := 604) (by decide +kernel)⟩
theorem lw_p7 : lw_okq (⟨"BitNumbersModel", "floating", "(IIJJ)J"⟩, 14) := ⟨⟨by decide +kernel, by decide +kernel⟩, List.mem_of_getElem? (i := 450) (by decide +kernel), List.mem_of_getElem? (i := 613) (by decide +kernel), List.mem_of_getElem? (i := 614) (by decide +kernel)⟩
theorem lw_p8 : lw_okq (⟨"BitNumbersModel", "root", "(IJ)J"⟩, 14) := ⟨⟨by decide +kernel, by decide +kernel⟩, List.mem_of_getElem? (i := 450) (by decide +kernel), List.mem_of_getElem? (i := 625) (by decide +kernel), List.mem_of_getElem? (i := 626) (by decide +kernel)⟩
theorem lw_p9 : lw_okq (⟨"BitNumbersModel", "rounded", "(IZI)J"⟩, 14) := ⟨⟨by decide +kernel, by decide +kernel⟩, List.mem_of_getElem? (i := 450) (by decide +kernel), List.mem_of_getElem? (i := 644) (by decide +kernel), List.mem_of_getElem? (i := 645) (by decide +kernel)⟩
theorem lw_p10 : lw_okq (⟨"BitNumbersModel", "order", "(JI)I"⟩, 14) := ⟨⟨by decide +kernel, by decide +kernel⟩, List.mem_of_getElem? (i := 450) (by decide +kernel), List.mem_of_getElem? (i := 648) (by decide +kernel), List.mem_of_getElem? (i := 649) (by decide +kernel)⟩
theorem lw_p11 : lw_okq (⟨"BitNumbersModel", "multiply", "(JJ)V"⟩, 14) := ⟨⟨by decide +kernel, by decide +kernel⟩, List.mem_of_getElem? (i := 450) (by decide +kernel), List.mem_of_getElem? (i := 656) (by decide +kernel), List.mem_of_getElem? (i := 657) (by decide +kernel)⟩
theorem lw_p12 : lw_okq (⟨"BitNumbersModel", "compareFactor", "(JI)I"⟩, 14) := ⟨⟨by decide +kernel, by decide +kernel⟩, List.mem_of_getElem? (i := 450) (by decide +kernel), List.mem_of_getElem? (i := 661) (by decide +kernel), List.mem_of_getElem? (i := 662) (by decide +kernel)⟩
theorem lw_p13 : lw_okq (⟨"BitNumbersModel", "shifted", "(II)I"⟩, 14) := ⟨⟨by decide +kernel, by decide +kernel⟩, List.mem_of_getElem? (i := 450) (by decide +kernel), List.mem_of_getElem? (i := 665) (by decide +kernel), List.mem_of_getElem? (i := 666) (by decide +kernel)⟩
theorem lw_p14 : lw_okq (⟨"BitNumbersModel", "sum", "(IJJ)J"⟩, 14) := ⟨⟨by decide +kernel, by decide +kernel⟩, List.mem_of_getElem? (i := 450) (by decide +kernel), List.mem_of_getElem? (i := 672) (by decide +kernel), List.mem_of_getElem? (i := 673) (by decide +kernel)⟩
theorem lw_p15 : lw_okq (⟨"BitNumbersModel", "compareRows", "()I"⟩, 14) := ⟨⟨by decide +kernel, by decide +kernel⟩, List.mem_of_getElem? (i := 450) (by decide +kernel), List.mem_of_getElem? (i := 679) (by decide +kernel), List.mem_of_getElem? (i := 680) (by decide +kernel)⟩
def lw_privs_1 : List (MethodName × Nat) := [(⟨"BitNumbers", "put", "(IJ)I"⟩, 4), (⟨"BitNumbers", "isThere", "(I)Z"⟩, 4), (⟨"java/lang/Throwable", "fillInStackTrace", "(I)Ljava/lang/Throwable;"⟩, 6), (⟨"BitNumbers", "areOnTop", "(II)Z"⟩, 4), (⟨"BitNumbersModel", "worked", "(IIJJ)J"⟩, 14), (⟨"BitNumbersModel", "whole", "(IIJJ)J"⟩, 14), (⟨"BitNumbersModel", "quotient", "(IIJJ)J"⟩, 14), (⟨"BitNumbersModel", "floating", "(IIJJ)J"⟩, 14), (⟨"BitNumbersModel", "root", "(IJ)J"⟩, 14), (⟨"BitNumbersModel", "rounded", "(IZI)J"⟩, 14), (⟨"BitNumbersModel", "order", "(JI)I"⟩, 14), (⟨"BitNumbersModel", "multiply", "(JJ)V"⟩, 14), (⟨"BitNumbersModel", "compareFactor", "(JI)I"⟩, 14), (⟨"BitNumbersModel", "shifted", "(II)I"⟩, 14), (⟨"BitNumbersModel", "sum", "(IJJ)J"⟩, 14), (⟨"BitNumbersModel", "compareRows", "()I"⟩, 14)]
theorem lw_r1 : ∀ q ∈ lw_privs_1, lw_okq q := List.forall_mem_cons.mpr ⟨lw_p0, List.forall_mem_cons.mpr ⟨lw_p1, List.forall_mem_cons.mpr ⟨lw_p2, List.forall_mem_cons.mpr ⟨lw_p3, List.forall_mem_cons.mpr ⟨lw_p4, List.forall_mem_cons.mpr ⟨lw_p5, List.forall_mem_cons.mpr ⟨lw_p6, List.forall_mem_cons.mpr ⟨lw_p7, List.forall_mem_cons.mpr ⟨lw_p8, List.forall_mem_cons.mpr ⟨lw_p9, List.forall_mem_cons.mpr ⟨lw_p10, List.forall_mem_cons.mpr ⟨lw_p11, List.forall_mem_cons.mpr ⟨lw_p12, List.forall_mem_cons.mpr ⟨lw_p13, List.forall_mem_cons.mpr ⟨lw_p14, List.forall_mem_cons.mpr ⟨lw_p15, fun _ h => absurd h List.not_mem_nil⟩⟩⟩⟩⟩⟩⟩⟩⟩⟩⟩⟩⟩⟩⟩⟩
theorem lw_p16 : lw_okq (⟨"BitNumbersModel", "addRows", "()V"⟩, 14) := ⟨⟨by decide +kernel, by decide +kernel⟩, List.mem_of_getElem? (i := 450) (by decide +kernel), List.mem_of_getElem? (i := 683) (by decide +kernel), List.mem_of_getElem? (i := 684) (by decide +kernel)⟩
theorem lw_p17 : lw_okq (⟨"BitNumbersModel", "subtractRows", "(Z)V"⟩, 14) := ⟨⟨by decide +kernel, by decide +kernel⟩, List.mem_of_getElem? (i := 450) (by decide +kernel), List.mem_of_getElem? (i := 687) (by decide +kernel), List.mem_of_getElem? (i := 688) (by decide +kernel)⟩
theorem lw_p18 : lw_okq (⟨"BitNumbersModel", "roundedRow", "(IZ)J"⟩, 14) := ⟨⟨by decide +kernel, by decide +kernel⟩, List.mem_of_getElem? (i := 450) (by decide +kernel), List.mem_of_getElem? (i := 691) (by decide +kernel), List.mem_of_getElem? (i := 692) (by decide +kernel)⟩
theorem lw_p19 : lw_okq (⟨"BitNumbersModel", "measure", "()V"⟩, 14) := ⟨⟨by decide +kernel, by decide +kernel⟩, List.mem_of_getElem? (i := 450) (by decide +kernel), List.mem_of_getElem? (i := 695) (by decide +kernel), List.mem_of_getElem? (i := 696) (by decide +kernel)⟩
theorem lw_p20 : lw_okq (⟨"BitNumbersModel", "highestOfRow", "()I"⟩, 14) := ⟨⟨by decide +kernel, by decide +kernel⟩, List.mem_of_getElem? (i := 450) (by decide +kernel), List.mem_of_getElem? (i := 699) (by decide +kernel), List.mem_of_getElem? (i := 700) (by decide +kernel)⟩
theorem lw_p21 : lw_okq (⟨"BitNumbersModel", "product", "(IJJ)J"⟩, 14) := ⟨⟨by decide +kernel, by decide +kernel⟩, List.mem_of_getElem? (i := 450) (by decide +kernel), List.mem_of_getElem? (i := 703) (by decide +kernel), List.mem_of_getElem? (i := 704) (by decide +kernel)⟩
theorem lw_p22 : lw_okq (⟨"BitNumbersModel", "clearRows", "()V"⟩, 14) := ⟨⟨by decide +kernel, by decide +kernel⟩, List.mem_of_getElem? (i := 450) (by decide +kernel), List.mem_of_getElem? (i := 707) (by decide +kernel), List.mem_of_getElem? (i := 708) (by decide +kernel)⟩
theorem lw_p23 : lw_okq (⟨"BitNumbersModel", "byQuotient", "(IJJ)J"⟩, 14) := ⟨⟨by decide +kernel, by decide +kernel⟩, List.mem_of_getElem? (i := 450) (by decide +kernel), List.mem_of_getElem? (i := 711) (by decide +kernel), List.mem_of_getElem? (i := 712) (by decide +kernel)⟩
theorem lw_p24 : lw_okq (⟨"BitNumbersModel", "towards", "(IIJ)J"⟩, 14) := ⟨⟨by decide +kernel, by decide +kernel⟩, List.mem_of_getElem? (i := 450) (by decide +kernel), List.mem_of_getElem? (i := 715) (by decide +kernel), List.mem_of_getElem? (i := 716) (by decide +kernel)⟩
theorem lw_p25 : lw_okq (⟨"BitNumbersModel", "valueOf", "(IZJI)J"⟩, 14) := ⟨⟨by decide +kernel, by decide +kernel⟩, List.mem_of_getElem? (i := 450) (by decide +kernel), List.mem_of_getElem? (i := 719) (by decide +kernel), List.mem_of_getElem? (i := 720) (by decide +kernel)⟩
theorem lw_p26 : lw_okq (⟨"BitNumbersModel", "convert", "(IJ)J"⟩, 14) := ⟨⟨by decide +kernel, by decide +kernel⟩, List.mem_of_getElem? (i := 450) (by decide +kernel), List.mem_of_getElem? (i := 723) (by decide +kernel), List.mem_of_getElem? (i := 724) (by decide +kernel)⟩
theorem lw_p27 : lw_okq (⟨"BitNumbersModel", "toWhole", "(IIZZJ)J"⟩, 14) := ⟨⟨by decide +kernel, by decide +kernel⟩, List.mem_of_getElem? (i := 450) (by decide +kernel), List.mem_of_getElem? (i := 727) (by decide +kernel), List.mem_of_getElem? (i := 728) (by decide +kernel)⟩
theorem lw_p28 : lw_okq (⟨"BitNumbersModel", "bound", "(ZIJ)J"⟩, 14) := ⟨⟨by decide +kernel, by decide +kernel⟩, List.mem_of_getElem? (i := 450) (by decide +kernel), List.mem_of_getElem? (i := 731) (by decide +kernel), List.mem_of_getElem? (i := 732) (by decide +kernel)⟩
theorem lw_p29 : lw_okq (⟨"BitNumbersModel", "between", "(IIJ)J"⟩, 14) := ⟨⟨by decide +kernel, by decide +kernel⟩, List.mem_of_getElem? (i := 450) (by decide +kernel), List.mem_of_getElem? (i := 735) (by decide +kernel), List.mem_of_getElem? (i := 736) (by decide +kernel)⟩
theorem lw_p30 : lw_okq (⟨"BitNumbersModel", "fromWhole", "(IIZJ)J"⟩, 14) := ⟨⟨by decide +kernel, by decide +kernel⟩, List.mem_of_getElem? (i := 450) (by decide +kernel), List.mem_of_getElem? (i := 739) (by decide +kernel), List.mem_of_getElem? (i := 740) (by decide +kernel)⟩
theorem lw_p31 : lw_okq (⟨"BitNumbersModel", "isThere", "(I)Z"⟩, 14) := ⟨⟨by decide +kernel, by decide +kernel⟩, List.mem_of_getElem? (i := 450) (by decide +kernel), List.mem_of_getElem? (i := 755) (by decide +kernel), List.mem_of_getElem? (i := 756) (by decide +kernel)⟩
def lw_privs_2 : List (MethodName × Nat) := [(⟨"BitNumbersModel", "addRows", "()V"⟩, 14), (⟨"BitNumbersModel", "subtractRows", "(Z)V"⟩, 14), (⟨"BitNumbersModel", "roundedRow", "(IZ)J"⟩, 14), (⟨"BitNumbersModel", "measure", "()V"⟩, 14), (⟨"BitNumbersModel", "highestOfRow", "()I"⟩, 14), (⟨"BitNumbersModel", "product", "(IJJ)J"⟩, 14), (⟨"BitNumbersModel", "clearRows", "()V"⟩, 14), (⟨"BitNumbersModel", "byQuotient", "(IJJ)J"⟩, 14), (⟨"BitNumbersModel", "towards", "(IIJ)J"⟩, 14), (⟨"BitNumbersModel", "valueOf", "(IZJI)J"⟩, 14), (⟨"BitNumbersModel", "convert", "(IJ)J"⟩, 14), (⟨"BitNumbersModel", "toWhole", "(IIZZJ)J"⟩, 14), (⟨"BitNumbersModel", "bound", "(ZIJ)J"⟩, 14), (⟨"BitNumbersModel", "between", "(IIJ)J"⟩, 14), (⟨"BitNumbersModel", "fromWhole", "(IIZJ)J"⟩, 14), (⟨"BitNumbersModel", "isThere", "(I)Z"⟩, 14)]
theorem lw_r2 : ∀ q ∈ lw_privs_2, lw_okq q := List.forall_mem_cons.mpr ⟨lw_p16, List.forall_mem_cons.mpr ⟨lw_p17, List.forall_mem_cons.mpr ⟨lw_p18, List.forall_mem_cons.mpr ⟨lw_p19, List.forall_mem_cons.mpr ⟨lw_p20, List.forall_mem_cons.mpr ⟨lw_p21, List.forall_mem_cons.mpr ⟨lw_p22, List.forall_mem_cons.mpr ⟨lw_p23, List.forall_mem_cons.mpr ⟨lw_p24, List.forall_mem_cons.mpr ⟨lw_p25, List.forall_mem_cons.mpr ⟨lw_p26, List.forall_mem_cons.mpr ⟨lw_p27, List.forall_mem_cons.mpr ⟨lw_p28, List.forall_mem_cons.mpr ⟨lw_p29, List.forall_mem_cons.mpr ⟨lw_p30, List.forall_mem_cons.mpr ⟨lw_p31, fun _ h => absurd h List.not_mem_nil⟩⟩⟩⟩⟩⟩⟩⟩⟩⟩⟩⟩⟩⟩⟩⟩
def lw_privs : List (MethodName × Nat) := lw_privs_1 ++ (lw_privs_2)
def lw_tbl : List Cond := k2_sels lw_privs ++ tables_1
theorem lw_privs_ok : ∀ q ∈ lw_privs, lw_okq q := by
  show ∀ q ∈ lw_privs_1 ++ (lw_privs_2), lw_okq q
  exact List.forall_mem_append.mpr ⟨lw_r1, lw_r2⟩
end
section
def bn_u (x : Int64) : Nat := x.toBitVec.toNat
theorem bn_u_lt (x : Int64) : bn_u x < 2^64 := x.toBitVec.isLt
theorem bn_u_inj {x y : Int64} (h : bn_u x = bn_u y) : x = y := by
  apply Int64.toBitVec_inj.mp
  exact BitVec.eq_of_toNat_eq h
theorem bn_s_u (x : Int64) : x.toInt = if bn_u x < 2^63 then (bn_u x : Int) else (bn_u x : Int) - 2^64 := by
  have h := BitVec.toInt_eq_toNat_cond x.toBitVec
  rw [Int64.toInt_toBitVec] at h
  rw [h]; unfold bn_u
  have := x.toBitVec.isLt
  split <;> split <;> omega
def bn_shl (x : Int64) (y : Int32) : Int64 := x <<< (y.toInt64 &&& 63)
def bn_shr (x : Int64) (y : Int32) : Int64 := (x.toUInt64 >>> (y.toInt64.toUInt64 &&& Int64.toUInt64 63)).toInt64
def bn_sar (x : Int64) (y : Int32) : Int64 := x >>> (y.toInt64 &&& 63)
theorem bn_u_i2l (y : Int32) : (bn_u y.toInt64 : Int) = y.toInt % 2^64 := by
  have h := bn_s_u y.toInt64
  rw [Int32.toInt_toInt64] at h
  have h1 := bn_u_lt y.toInt64
  split at h <;> omega
theorem bn_u_and63 (y : Int32) : bn_u (y.toInt64 &&& 63) = (y.toInt % 64).toNat := by
  have h : bn_u (y.toInt64 &&& 63) = bn_u y.toInt64 % 64 := by
    have : bn_u (y.toInt64 &&& 63) = bn_u y.toInt64 &&& (2^6 - 1) := by simp [bn_u]
    rw [this, Nat.and_two_pow_sub_one_eq_mod]
  have h2 := bn_u_i2l y
  omega
theorem bn_smod {b : BitVec 64} (h : b.toNat < 64) : (b.smod 64#64).toNat = b.toNat := by
  have hm : b.msb = false := by
    rw [BitVec.msb_eq_false_iff_two_mul_lt]; omega
  rw [BitVec.smod_eq, hm, show (64#64).msb = false by decide]
  show (b % 64#64).toNat = _
  rw [BitVec.toNat_umod]
  exact Nat.mod_eq_of_lt h
theorem bn_u_shl (x : Int64) (y : Int32) : bn_u (bn_shl x y) = bn_u x * 2^(y.toInt % 64).toNat % 2^64 := by
  have hk := bn_u_and63 y
  have hlt : (y.toInt % 64).toNat < 64 := by omega
  have hs : ((y.toInt64 &&& 63).toBitVec.smod 64#64).toNat = (y.toInt % 64).toNat := by
    have hk' : (y.toInt64 &&& 63).toBitVec.toNat = (y.toInt % 64).toNat := hk
    rw [bn_smod (by omega), hk']
  unfold bn_u bn_shl
  rw [Int64.toBitVec_shiftLeft]
  rw [show (64 : BitVec 64) = 64#64 from rfl]
  rw [BitVec.shiftLeft_eq', BitVec.toNat_shiftLeft, hs, Nat.shiftLeft_eq]
theorem bn_u_shr (x : Int64) (y : Int32) : bn_u (bn_shr x y) = bn_u x / 2^(y.toInt % 64).toNat := by
  have hk := bn_u_and63 y
  have hlt : (y.toInt % 64).toNat < 64 := by omega
  unfold bn_u bn_shr
  have : (y.toInt64.toUInt64 &&& Int64.toUInt64 63).toNat = (y.toInt % 64).toNat := hk
  show (x.toUInt64 >>> (y.toInt64.toUInt64 &&& Int64.toUInt64 63)).toNat = _
  rw [UInt64.toNat_shiftRight, this, Nat.mod_eq_of_lt hlt, Nat.shiftRight_eq_div_pow]
  rfl
theorem bn_s_sar (x : Int64) (y : Int32) : (bn_sar x y).toInt = x.toInt / 2^(y.toInt % 64).toNat := by
  have hk := bn_u_and63 y
  have hlt : (y.toInt % 64).toNat < 64 := by omega
  have hs : ((y.toInt64 &&& 63).toBitVec.smod 64#64).toNat = (y.toInt % 64).toNat := by
    have hk' : (y.toInt64 &&& 63).toBitVec.toNat = (y.toInt % 64).toNat := hk
    rw [bn_smod (by omega), hk']
  rw [← Int64.toInt_toBitVec]
  unfold bn_sar
  rw [Int64.toBitVec_shiftRight]
  rw [show (64 : BitVec 64) = 64#64 from rfl]
  rw [BitVec.sshiftRight_eq', BitVec.toInt_sshiftRight, hs, Int.shiftRight_eq_div_pow]
  simp
def bn_len (m : Nat) : Nat := if m = 0 then 0 else m.log2 + 1
theorem bn_len_le {m k : Nat} : bn_len m ≤ k ↔ m < 2^k := by
  unfold bn_len
  split
  · next h => subst h; exact ⟨fun _ => Nat.two_pow_pos k, fun _ => Nat.zero_le _⟩
  · next h => rw [← Nat.log2_lt h]; exact Iff.rfl
theorem bn_lt_len {m k : Nat} : k < bn_len m ↔ 2^k ≤ m := by
  rw [← Nat.not_le, bn_len_le, Nat.not_lt]
theorem bn_len_eq {m k : Nat} (h1 : 2^k ≤ m) (h2 : m < 2^(k+1)) : bn_len m = k + 1 := by
  have := bn_len_le.mpr h2
  have := bn_lt_len.mpr h1
  omega
theorem bn_len_zero : bn_len 0 = 0 := rfl
theorem bn_len_pos {m : Nat} (h : 0 < m) : 0 < bn_len m := by rw [bn_lt_len]; exact h
theorem bn_len_lt (m : Nat) : m < 2^bn_len m := bn_len_le.mp (Nat.le_refl _)
theorem bn_len_ge {m : Nat} (h : 0 < m) : 2^(bn_len m - 1) ≤ m := bn_lt_len.mp (by have := bn_len_pos h; omega)
theorem bn_len_mono {a b : Nat} (h : a ≤ b) : bn_len a ≤ bn_len b := bn_len_le.mpr (Nat.lt_of_le_of_lt h (bn_len_lt b))
theorem bn_len_mul {m : Nat} (h : 0 < m) (k : Nat) : bn_len (m * 2^k) = bn_len m + k := by
  have h1 := bn_len_pos h
  have e : bn_len m + k = (bn_len m - 1 + k) + 1 := by omega
  rw [e]; apply bn_len_eq
  · rw [Nat.pow_add]; exact Nat.mul_le_mul_right _ (bn_len_ge h)
  · rw [show bn_len m - 1 + k + 1 = bn_len m + k by omega, Nat.pow_add]
    exact Nat.mul_lt_mul_of_pos_right (bn_len_lt m) (Nat.two_pow_pos k)
theorem bn_len_div (m k : Nat) : bn_len (m / 2^k) = bn_len m - k := by
  rcases Nat.lt_or_ge m (2^k) with h | h
  · rw [Nat.div_eq_of_lt h]; have := bn_len_le.mpr h; simp [bn_len_zero]; omega
  · have h1 := bn_lt_len.mpr h
    have e : bn_len m - k = (bn_len m - k - 1) + 1 := by omega
    have hm : 0 < m := Nat.lt_of_lt_of_le (Nat.two_pow_pos k) h
    rw [e]; apply bn_len_eq
    · rw [Nat.le_div_iff_mul_le (Nat.two_pow_pos k), ← Nat.pow_add, show bn_len m - k - 1 + k = bn_len m - 1 by omega]
      exact bn_len_ge hm
    · rw [Nat.div_lt_iff_lt_mul (Nat.two_pow_pos k), ← Nat.pow_add, show bn_len m - k - 1 + 1 + k = bn_len m by omega]
      exact bn_len_lt m
def bn_rne (m d : Nat) : Nat := m / 2^d + (if 2^d < 2 * (m % 2^d) ∨ (2 * (m % 2^d) = 2^d ∧ m / 2^d % 2 = 1) then 1 else 0)
theorem bn_rne_zero (m : Nat) : bn_rne m 0 = m := by
  unfold bn_rne; simp [Nat.mod_one]
def bn_tr (k m : Nat) : Nat := if m % 2^k = 0 then m / 2^k else m / 2^k / 2 * 2 + 1
theorem bn_tr_zero (m : Nat) : bn_tr 0 m = m := by simp [bn_tr, Nat.mod_one]
theorem bn_tr_half (k m : Nat) : bn_tr k m / 2 = m / 2^k / 2 := by
  unfold bn_tr; split <;> omega
theorem bn_tr_len {k m : Nat} (h : 2^k ≤ m) : bn_len (bn_tr k m) = bn_len m - k := by
  rw [← bn_len_div]
  have hA : 1 ≤ m / 2^k := (Nat.le_div_iff_mul_le (Nat.two_pow_pos k)).mpr (by omega)
  unfold bn_tr
  split
  · rfl
  · generalize m / 2^k = A at *
    have h1 := bn_len_lt A
    have h2 := bn_len_ge hA
    have h3 := bn_len_pos hA
    have e : bn_len A = (bn_len A - 1) + 1 := by omega
    rw [e]
    apply bn_len_eq
    · omega
    · rw [← e]
      rcases Nat.eq_or_lt_of_le h3 with q | q
      · rw [← q] at h1 ⊢; omega
      · have : 2 ^ bn_len A = 2 * 2^(bn_len A - 1) := by rw [← Nat.pow_succ']; congr 1
        omega
theorem bn_div_pow (m k d : Nat) : m / 2^(d + k) = m / 2^k / 2^d := by
  rw [Nat.div_div_eq_div_mul, ← Nat.pow_add, Nat.add_comm]
theorem bn_mod_pow (m k d : Nat) : m % 2^(d + k) = (m / 2^k % 2^d) * 2^k + m % 2^k := by
  rw [Nat.add_comm d k, Nat.pow_add, Nat.mod_mul, Nat.mul_comm (2^k)]; omega
theorem bn_rne_tr (m k d : Nat) (hd : 2 ≤ d) : bn_rne (bn_tr k m) d = bn_rne m (d + k) := by
  have q1 : bn_tr k m / 2^d = m / 2^(d + k) := by
    have : 2^d = 2 * 2^(d-1) := by rw [← Nat.pow_succ']; congr 1; omega
    rw [bn_div_pow, this, ← Nat.div_div_eq_div_mul, ← Nat.div_div_eq_div_mul, bn_tr_half]
  unfold bn_rne
  rw [q1]
  congr 1
  have hK := Nat.two_pow_pos k
  have hr := Nat.mod_lt m hK
  have ha := Nat.mod_lt (m / 2^k) (Nat.two_pow_pos d)
  have e1 := bn_mod_pow m k d
  have e2 : bn_tr k m % 2^d = if m % 2^k = 0 then m / 2^k % 2^d else (m / 2^k % 2^d) / 2 * 2 + 1 := by
    unfold bn_tr
    split
    · rfl
    · have h2 : 2^d = 2 * 2^(d-1) := by rw [← Nat.pow_succ']; congr 1; omega
      rw [h2, Nat.mod_mul, Nat.mod_mul, show (m / 2^k / 2 * 2 + 1) / 2 = m / 2^k / 2 by omega, show (m / 2^k / 2 * 2 + 1) % 2 = 1 by omega]
      omega
  have h2 : 2^d = 4 * 2^(d-2) := by
    rw [show (4 : Nat) = 2^2 from rfl, ← Nat.pow_add]; congr 1; omega
  rw [e1, e2, Nat.pow_add]
  generalize m / 2^k % 2^d = a at *
  generalize m % 2^k = r at *
  generalize hh : 2^(d-2) = h at *
  generalize 2^k = K at *
  rw [h2]
  have c1 : (4 * h * K < 2 * (a * K + r)) ↔ (2 * h < a ∨ (a = 2 * h ∧ 0 < r)) := by
    constructor
    · intro q
      rcases Nat.lt_trichotomy a (2 * h) with w | w | w
      · exfalso
        have : (a + 1) * K ≤ 2 * h * K := Nat.mul_le_mul_right K w
        rw [Nat.add_mul] at this
        have e : 4 * h * K = 2 * (2 * h * K) := by rw [← Nat.mul_assoc, ← Nat.mul_assoc]
        omega
      · right
        refine ⟨w, ?_⟩
        subst w
        have e : 4 * h * K = 2 * (2 * h * K) := by rw [← Nat.mul_assoc, ← Nat.mul_assoc]
        omega
      · exact Or.inl w
    · have e : 4 * h * K = 2 * (2 * h * K) := by rw [← Nat.mul_assoc, ← Nat.mul_assoc]
      rintro (w | ⟨w, w2⟩)
      · have : (2 * h + 1) * K ≤ a * K := Nat.mul_le_mul_right K w
        rw [Nat.add_mul] at this
        omega
      · subst w; omega
  have c2 : (2 * (a * K + r) = 4 * h * K) ↔ (a = 2 * h ∧ r = 0) := by
    have e : 4 * h * K = 2 * (2 * h * K) := by rw [← Nat.mul_assoc, ← Nat.mul_assoc]
    constructor
    · intro q
      rcases Nat.lt_trichotomy a (2 * h) with w | w | w
      · exfalso
        have : (a + 1) * K ≤ 2 * h * K := Nat.mul_le_mul_right K w
        rw [Nat.add_mul] at this
        omega
      · refine ⟨w, ?_⟩
        subst w; omega
      · exfalso
        have : (2 * h + 1) * K ≤ a * K := Nat.mul_le_mul_right K w
        rw [Nat.add_mul] at this
        omega
    · rintro ⟨w, w2⟩
      subst w; omega
  simp only [c1, c2]
  split
  · next hr0 =>
    have i1 : (4 * h < 2 * a ↔ (2 * h < a ∨ a = 2 * h ∧ 0 < r)) := by omega
    have i2 : (2 * a = 4 * h ↔ (a = 2 * h ∧ r = 0)) := by omega
    simp only [i1, i2]
  · next hr0 =>
    have i1 : (4 * h < 2 * (a / 2 * 2 + 1) ↔ (2 * h < a ∨ a = 2 * h ∧ 0 < r)) := by omega
    have i2 : (2 * (a / 2 * 2 + 1) = 4 * h ↔ (a = 2 * h ∧ r = 0)) := by omega
    simp only [i1, i2]
theorem bn_rne_mul (m k d : Nat) : bn_rne (m * 2^k) (d + k) = bn_rne m d := by
  unfold bn_rne
  rw [bn_div_pow, Nat.mul_div_cancel _ (Nat.two_pow_pos k), bn_mod_pow, Nat.mul_mod_left, Nat.mul_div_cancel _ (Nat.two_pow_pos k)]
  congr 1
  have hK := Nat.two_pow_pos k
  rw [Nat.pow_add]
  generalize m % 2^d = a at *
  generalize 2^d = D at *
  generalize 2^k = K at *
  have i1 : (D * K < 2 * (a * K + 0)) ↔ D < 2 * a := by
    rw [Nat.add_zero, ← Nat.mul_assoc]
    exact Nat.mul_lt_mul_right hK
  have i2 : (2 * (a * K + 0) = D * K) ↔ 2 * a = D := by
    rw [Nat.add_zero, ← Nat.mul_assoc]
    exact Nat.mul_left_inj (by omega)
  simp only [i1, i2]
def bn_ns (P : Nat) (mn : Int) (m : Nat) (e : Int) : Int := max (e + bn_len m - P) mn
def bn_rn (P : Nat) (mn : Int) (m : Nat) (e : Int) : Nat :=
  (bn_ns P mn m e - mn).toNat * 2^(P-1) + (if bn_ns P mn m e ≤ e then m * 2^(e - bn_ns P mn m e).toNat else bn_rne m (bn_ns P mn m e - e).toNat)
theorem bn_rn_tr (P : Nat) (mn : Int) (m : Nat) (e : Int) (k : Nat) (h : 2^k ≤ m) (hk : e + k + 2 ≤ bn_ns P mn m e) :
    bn_rn P mn (bn_tr k m) (e + k) = bn_rn P mn m e := by
  have hl := bn_tr_len h
  have h0 := bn_lt_len.mpr h
  have hns : bn_ns P mn (bn_tr k m) (e + k) = bn_ns P mn m e := by
    unfold bn_ns; rw [hl]; congr 1; omega
  unfold bn_rn
  rw [hns, if_neg (by omega), if_neg (by omega), bn_rne_tr _ _ _ (by omega)]
  congr 2; omega
theorem bn_rn_mul (P : Nat) (mn : Int) (m : Nat) (e : Int) (k : Nat) (h : 0 < m) :
    bn_rn P mn (m * 2^k) e = bn_rn P mn m (e + k) := by
  have hl := bn_len_mul h k
  have hns : bn_ns P mn (m * 2^k) e = bn_ns P mn m (e + k) := by
    unfold bn_ns; rw [hl]; congr 1; omega
  unfold bn_rn
  rw [hns]
  generalize bn_ns P mn m (e + k) = n
  congr 1
  by_cases q : n ≤ e
  · rw [if_pos q, if_pos (by omega), Nat.mul_assoc, ← Nat.pow_add]; congr 2; omega
  · rw [if_neg q]
    by_cases q2 : n ≤ e + k
    · rw [if_pos q2]
      have e1 : k = (e + k - n).toNat + (n - e).toNat := by omega
      generalize hj : (e + k - n).toNat = j at *
      rw [e1, Nat.pow_add, ← Nat.mul_assoc]
      have := bn_rne_mul (m * 2^j) (n - e).toNat 0
      rw [Nat.zero_add] at this
      rw [this, bn_rne_zero]
    · rw [if_neg q2, show (n - e).toNat = (n - (e + k)).toNat + k by omega, bn_rne_mul]
end
section
def fm_places (k : Nat) : Int32 := if k = 0 then 24 else 53
def fm_greatestExponent (k : Nat) : Int32 := if k = 0 then 255 else 2047
def fm_leastScale (k : Nat) : Int32 := if k = 0 then (-149) else (-1074)
def fm_signBit (k : Nat) : Int64 := if k = 0 then 2147483648 else (-9223372036854775808)
def fm_leadingBit (k : Nat) : Int64 := if k = 0 then 8388608 else 4503599627370496
def fm_infinite (k : Nat) : Int64 := if k = 0 then 2139095040 else 9218868437227405312
def fm_none (k : Nat) : Int64 := if k = 0 then 2143289344 else 9221120237041090560
def tb_list (k : Nat) : List Int32 := match k with
  | 0 => [69, 80, 91, 97, 103, 121, 139, 153, 167]
  | 1 => [1, 1, 0, 0, 3, 3, 7, 7, 41]
  | 2 => [1, 2, 2, 3, 3, 0, 0, 2, 2, 3, 3, 0, 0, 1, 1, 3, 0, 0, 1, 1, 2, 2, 3, 0, 1, 0, 0, 1, 1, 1, -1, -1, -1, 2, 2, 3, 3, 2, 2, 3, 3]
  | _ => [0, 0, 0, 0, 0, 1, 1, 1, 1, 1, 1, 2, 2, 2, 2, 2, 3, 3, 3, 3, 3, 0, 1, 2, 3, 0, 0, 1, 1, 1, -1, -1, -1, 0, 0, 0, 0, 1, 1, 1, 1]
def tb (k j : Nat) : Int32 := (tb_list k).getD j 0
def tb_len (k : Nat) : Nat := (tb_list k).length
def tb_len32 (k : Nat) : Int32 := Int32.ofNat (tb_len k)
def fLong_compare (a0 : Int64) (a2 : Int64) : Int32 :=
  (if a2 ≤ a0 then (if a0 = a2 then 0 else 1) else (-1))
def fLong_bitCount_55 (a0 : Int64) : Int32 :=
  (a0.toInt32 &&& 127)
def fLong_bitCount_48 (a0 : Int64) : Int32 :=
  (fLong_bitCount_55 (a0 + (bn_shr a0 32)))
def fLong_bitCount_41 (a0 : Int64) : Int32 :=
  (fLong_bitCount_48 (a0 + (bn_shr a0 16)))
def fLong_bitCount_34 (a0 : Int64) : Int32 :=
  (fLong_bitCount_41 (a0 + (bn_shr a0 8)))
def fLong_bitCount_24 (a0 : Int64) : Int32 :=
  (fLong_bitCount_34 ((a0 + (bn_shr a0 4)) &&& 1085102592571150095))
def fLong_bitCount_10 (a0 : Int64) : Int32 :=
  (fLong_bitCount_24 ((a0 &&& 3689348814741910323) + ((bn_shr a0 2) &&& 3689348814741910323)))
def fLong_bitCount (a0 : Int64) : Int32 :=
  (fLong_bitCount_10 (a0 - ((bn_shr a0 1) &&& 6148914691236517205)))
def fMath_max (a0 : Int32) (a1 : Int32) : Int32 :=
  (if a0 < a1 then a1 else a0)
def fMath_min (a0 : Int32) (a1 : Int32) : Int32 :=
  (if a1 < a0 then a1 else a0)
def fOperators_exists_34  : Int32 :=
  0
def fOperators_exists_30  : Int32 :=
  1
def fOperators_exists_16 (a0 : Int32) : Int32 :=
  (if a0 < 200 then (fOperators_exists_34) else (if 207 < a0 then (fOperators_exists_34) else (fOperators_exists_30)))
def fOperators_exists (a0 : Int32) : Int32 :=
  (if a0 < (tb 0 (0 : Int32).toNatClampNeg) then (fOperators_exists_16 a0) else (if a0 ≤ 196 then (fOperators_exists_30) else (fOperators_exists_16 a0)))
def fOperators_family_23 (K : Int32 → Int32 → Int32 → Int32) (a0 : Int32) (a1 : Int32) (a2 : Int32) : Int32 :=
  (K a0 a1 (a2 + 1))
def fOperators_family_4 : Nat → Int32 → Int32 → Int32 → Int32
  | 0, _, _, _ => 0
  | n + 1, a0, a1, a2 =>
    (if 9 ≤ a2 then a1 else (if a0 < (tb 0 a2.toNatClampNeg) then (fOperators_family_23 (fOperators_family_4 n) a0 a1 a2) else (fOperators_family_23 (fOperators_family_4 n) a0 a2 a2)))
def fOperators_family (a0 : Int32) : Int32 :=
  (fOperators_family_4 9 a0 0 1)
def fOperators_operands_5 (a0 : Int32) (a1 : Int32) : Int32 :=
  (if (tb 1 a1.toNatClampNeg) ≤ (a0 - (tb 0 a1.toNatClampNeg)) then 2 else 1)
def fOperators_operands (a0 : Int32) : Int32 :=
  (fOperators_operands_5 a0 (fOperators_family a0))
def fOperators_typeIn_25  : Int32 :=
  (-1)
def fOperators_typeIn_9 (a0 : Nat) (a2 : Int32) : Int32 :=
  (if a2 < 0 then (fOperators_typeIn_25) else (if (tb_len32 a0) ≤ a2 then (fOperators_typeIn_25) else (tb a0 a2.toNatClampNeg)))
def fOperators_typeIn (a0 : Nat) (a1 : Int32) : Int32 :=
  (fOperators_typeIn_9 a0 (a1 - (tb 0 (8 : Int32).toNatClampNeg)))
def fOperators_operandType_5 (a0 : Int32) (a1 : Int32) : Int32 :=
  (if 8 ≤ a1 then (fOperators_typeIn 2 a0) else (a1 - a1 / 4 * 4))
def fOperators_operandType (a0 : Int32) : Int32 :=
  (fOperators_operandType_5 a0 (fOperators_family a0))
def fOperators_resultType_5 (a0 : Int32) (a1 : Int32) : Int32 :=
  (if 4 ≤ a1 then (if 8 ≤ a1 then (fOperators_typeIn 3 a0) else (a1 - a1 / 4 * 4)) else 0)
def fOperators_resultType (a0 : Int32) : Int32 :=
  (fOperators_resultType_5 a0 (fOperators_family a0))
def fWhole_width (a0 : Int32) : Int32 :=
  (if a0 = 0 then 32 else 64)
def fWhole_greatest_19 (s0 : Int32) (s1 : Int32) (s2 : Int64) : Int64 :=
  (bn_shr s2 (s1 + s0))
def fWhole_greatest (a0 : Int32) (a1 : Int32) : Int64 :=
  (if a1 = 0 then (fWhole_greatest_19 0 (64 - (fWhole_width a0)) (-1)) else (fWhole_greatest_19 1 (64 - (fWhole_width a0)) (-1)))
def fWhole_withoutSign (a0 : Int32) (a1 : Int64) : Int64 :=
  (if a0 = 0 then (a1 &&& 4294967295) else a1)
def fWhole_withSign (a0 : Int32) (a1 : Int64) : Int64 :=
  (if a0 = 0 then a1.toInt32.toInt64 else a1)
def fWhole_trapOf_67 (s0 : Int32) : Int32 :=
  (if s0 = 0 then 0 else 2)
def fWhole_trapOf_66  : Int32 :=
  (fWhole_trapOf_67 0)
def fWhole_trapOf_36 (a0 : Int32) (a1 : Int32) (a2 : Int64) (a4 : Int64) (a6 : Int64) : Int32 :=
  (if a0 = 6 then (if a2 = a6 then (if (fWhole_withSign a1 a4) = (-1) then (fWhole_trapOf_67 1) else (fWhole_trapOf_66)) else (fWhole_trapOf_66)) else (fWhole_trapOf_66))
def fWhole_trapOf_12  : Int32 :=
  0
def fWhole_trapOf (a0 : Int32) (a1 : Int32) (a2 : Int64) (a4 : Int64) : Int32 :=
  (if a0 < 6 then (fWhole_trapOf_12) else (if a0 ≤ 9 then (if a4 = 0 then 1 else (fWhole_trapOf_36 a0 a1 a2 a4 (fWhole_withoutSign a1 ((fWhole_greatest a1 1) + 1)))) else (fWhole_trapOf_12)))
def fConversions_isTowardsZero_35  : Int32 :=
  1
def fConversions_isTowardsZero_28 (a0 : Int32) : Int32 :=
  (if a0 < 200 then 0 else (fConversions_isTowardsZero_35))
def fConversions_isTowardsZero_14 (a0 : Int32) : Int32 :=
  (if a0 ≤ 173 then (fConversions_isTowardsZero_28 a0) else (if a0 < 178 then (fConversions_isTowardsZero_35) else (fConversions_isTowardsZero_28 a0)))
def fConversions_isTowardsZero (a0 : Int32) : Int32 :=
  (if a0 ≤ 167 then (fConversions_isTowardsZero_14 a0) else (if a0 < 172 then (fConversions_isTowardsZero_35) else (fConversions_isTowardsZero_14 a0)))
def fFormat_of (a0 : Int32) : Nat :=
  (if a0 = 2 then 0 else 1)
def fFormat_isNone (a0 : Nat) (a1 : Int64) : Int32 :=
  (if (a1 &&& ((fm_signBit a0) ^^^ (-1))) ≤ (fm_infinite a0) then 0 else 1)
def fConversions_isSigned_38 (a1 : Int32) : Int32 :=
  a1
def fConversions_isSigned_11 (a0 : Int32) (s0 : Int32) : Int32 :=
  (if a0 ≤ 182 then (fConversions_isSigned_38 s0) else (if 187 ≤ a0 then (fConversions_isSigned_38 s0) else (if s0 = 0 then 1 else 0)))
def fConversions_isSigned (a0 : Int32) : Int32 :=
  (if (a0 - a0 / 2 * 2) = 0 then (fConversions_isSigned_11 a0 1) else (fConversions_isSigned_11 a0 0))
def fFormat_isNegative (a0 : Nat) (a1 : Int64) : Int32 :=
  (if (a1 &&& (fm_signBit a0)) = 0 then 0 else 1)
def fConversions_limit (a0 : Nat) (a1 : Int64) (a3 : Int32) (a4 : Int32) : Int64 :=
  (if (fFormat_isNegative a0 a1) = 0 then (fWhole_greatest a3 a4) else (if a4 = 0 then 0 else ((fWhole_greatest a3 1) + 1)))
def fFormat_exponent (a0 : Nat) (a1 : Int64) : Int32 :=
  (((bn_shr a1 ((fm_places a0) - 1)).toInt32) &&& (fm_greatestExponent a0))
def fFormat_significand_9 (a0 : Nat) (a1 : Int64) (a3 : Int64) : Int64 :=
  (if (fFormat_exponent a0 a1) = 0 then a3 else ((fm_leadingBit a0) ||| a3))
def fFormat_significand (a0 : Nat) (a1 : Int64) : Int64 :=
  (fFormat_significand_9 a0 a1 (a1 &&& ((fm_leadingBit a0) - 1)))
def fFormat_scale (a0 : Nat) (a1 : Int64) : Int32 :=
  (((fm_leastScale a0) + (fMath_max (fFormat_exponent a0 a1) 1)) - 1)
def fWhole_length_19 (K : Int64 → Int32 → Int32) (a2 : Int64) (a4 : Int32) : Int32 :=
  (K a2 (a4 * 2))
def fWhole_length_5 : Nat → Int64 → Int32 → Int32
  | 0, _, _ => 0
  | n + 1, a2, a4 =>
    (if 64 ≤ a4 then (fLong_bitCount a2) else (fWhole_length_19 (fWhole_length_5 n) (a2 ||| (bn_shr a2 a4)) a4))
def fWhole_length (a0 : Int64) : Int32 :=
  (fWhole_length_5 7 a0 1)
def fConversions_wholePart (a0 : Int64) (a2 : Int32) : Int64 :=
  (if a2 < 0 then (if (-63) ≤ a2 then (bn_shr a0 (-a2)) else 0) else (bn_shl a0 a2))
def fWhole_orderWithoutSign (a0 : Int64) (a2 : Int64) : Int32 :=
  (fLong_compare (a0 ^^^ (-9223372036854775808)) (a2 ^^^ (-9223372036854775808)))
def fConversions_fits_14 (a3 : Int64) (a5 : Int64) (a7 : Int32) : Int32 :=
  (if a7 ≤ (64 - (fWhole_length a5)) then (if 0 < (fWhole_orderWithoutSign (fConversions_wholePart a5 a7) a3) then 0 else 1) else 0)
def fConversions_fits_7 (a0 : Nat) (a1 : Int64) (a3 : Int64) (a5 : Int64) : Int32 :=
  (fConversions_fits_14 a3 a5 (fFormat_scale a0 a1))
def fConversions_fits (a0 : Nat) (a1 : Int64) (a3 : Int64) : Int32 :=
  (fConversions_fits_7 a0 a1 a3 (fFormat_significand a0 a1))
def fConversions_trapOf (a0 : Int32) (a1 : Nat) (a2 : Int32) (a3 : Int64) : Int32 :=
  (if (fFormat_isNone a1 a3) = 0 then (if (fConversions_fits a1 a3 (fConversions_limit a1 a3 a2 (fConversions_isSigned a0))) = 0 then 2 else 0) else 3)
def fOperators_trapOf_76  : Int32 :=
  0
def fOperators_trapOf_24 (a0 : Int32) (a1 : Int64) (a3 : Int64) (a5 : Int32) (a6 : Int32) : Int32 :=
  (fWhole_trapOf (a0 - (tb 0 a5.toNatClampNeg)) a6 a1 a3)
def fOperators_trapOf_12 (a0 : Int32) (a1 : Int64) (a3 : Int64) (a5 : Int32) (a6 : Int32) : Int32 :=
  (if a5 = 4 then (fOperators_trapOf_24 a0 a1 a3 a5 a6) else (if a5 = 5 then (fOperators_trapOf_24 a0 a1 a3 a5 a6) else (if a5 = 8 then (if 200 ≤ a0 then (fOperators_trapOf_76) else (if (fConversions_isTowardsZero a0) = 0 then (fOperators_trapOf_76) else (fConversions_trapOf a0 (fFormat_of a6) (fOperators_resultType a0) a1))) else (fOperators_trapOf_76))))
def fOperators_trapOf_6 (a0 : Int32) (a1 : Int64) (a3 : Int64) (a5 : Int32) : Int32 :=
  (fOperators_trapOf_12 a0 a1 a3 a5 (fOperators_operandType a0))
def fOperators_trapOf (a0 : Int32) (a1 : Int64) (a3 : Int64) : Int32 :=
  (fOperators_trapOf_6 a0 a1 a3 (fOperators_family a0))
def fWhole_test_24 (a0 : Int32) (a2 : Int64) (a4 : Int64) (a6 : Int32) (a7 : Int32) : Int32 :=
  (if a0 = 0 then (if a2 = 0 then 1 else 0) else (if a0 = 1 then (if a2 = a4 then 1 else 0) else (if a0 = 2 then (if a2 = a4 then 0 else 1) else (if a0 = 3 then (if 0 ≤ a6 then 0 else 1) else (if a0 = 4 then (if 0 ≤ a7 then 0 else 1) else (if a0 = 5 then (if a6 ≤ 0 then 0 else 1) else (if a0 = 6 then (if a7 ≤ 0 then 0 else 1) else (if a0 = 7 then (if 0 < a6 then 0 else 1) else (if a0 = 8 then (if 0 < a7 then 0 else 1) else (if a0 = 9 then (if a6 < 0 then 0 else 1) else (if a0 = 10 then (if a7 < 0 then 0 else 1) else 0)))))))))))
def fWhole_test_16 (a0 : Int32) (a2 : Int64) (a4 : Int64) (a6 : Int32) : Int32 :=
  (fWhole_test_24 a0 a2 a4 a6 (fWhole_orderWithoutSign a2 a4))
def fWhole_test (a0 : Int32) (a1 : Int32) (a2 : Int64) (a4 : Int64) : Int32 :=
  (fWhole_test_16 a0 a2 a4 (fLong_compare (fWhole_withSign a1 a2) (fWhole_withSign a1 a4)))
def fFormat_magnitude (a0 : Nat) (a1 : Int64) : Int64 :=
  (a1 &&& ((fm_signBit a0) ^^^ (-1)))
def fFloating_number_6 (a0 : Nat) (a1 : Int64) (a3 : Int64) : Int64 :=
  (if (fFormat_isNegative a0 a1) = 0 then a3 else (-a3))
def fFloating_number (a0 : Nat) (a1 : Int64) : Int64 :=
  (fFloating_number_6 a0 a1 (fFormat_magnitude a0 a1))
def fFloating_test_44 (a0 : Int32) (a6 : Int32) : Int32 :=
  (if a0 = 0 then (if a6 = 0 then 1 else 0) else (if a0 = 1 then (if a6 = 0 then 0 else 1) else (if a0 = 2 then (if 0 ≤ a6 then 0 else 1) else (if a0 = 3 then (if a6 ≤ 0 then 0 else 1) else (if a0 = 4 then (if 0 < a6 then 0 else 1) else (if a0 = 5 then (if a6 < 0 then 0 else 1) else 0))))))
def fFloating_test_17 (a0 : Int32) : Int32 :=
  (if a0 = 1 then 1 else 0)
def fFloating_test (a0 : Int32) (a1 : Nat) (a2 : Int64) (a4 : Int64) : Int32 :=
  (if (fFormat_isNone a1 a2) = 0 then (if (fFormat_isNone a1 a4) = 0 then (fFloating_test_44 a0 (fLong_compare (fFloating_number a1 a2) (fFloating_number a1 a4))) else (fFloating_test_17 a0)) else (fFloating_test_17 a0))
def fWhole_quotientWithoutSign_31 (a0 : Int64) (a2 : Int64) (a4 : Int64) : Int64 :=
  (if 0 ≤ (fWhole_orderWithoutSign (a0 - (a4 * a2)) a2) then (a4 + 1) else a4)
def fWhole_quotientWithoutSign (a0 : Int64) (a2 : Int64) : Int64 :=
  (if 0 < a2 then (fWhole_quotientWithoutSign_31 a0 a2 (((bn_shr a0 1) / a2) * 2)) else (if 0 ≤ (fWhole_orderWithoutSign a0 a2) then 1 else 0))
def fWhole_divided_22  : Int64 :=
  0
def fWhole_divided_8 (a0 : Int32) (a1 : Int32) (a2 : Int64) (a4 : Int64) (a6 : Int64) : Int64 :=
  (if a4 = 0 then (fWhole_divided_22) else (if a6 = 0 then (fWhole_divided_22) else (if a0 = 6 then ((fWhole_withSign a1 a2) / a6) else (if a0 = 7 then (fWhole_quotientWithoutSign a2 a4) else (if a0 = 8 then ((fWhole_withSign a1 a2) - (fWhole_withSign a1 a2) / a6 * a6) else (a2 - (a4 * (fWhole_quotientWithoutSign a2 a4))))))))
def fWhole_divided (a0 : Int32) (a1 : Int32) (a2 : Int64) (a4 : Int64) : Int64 :=
  (fWhole_divided_8 a0 a1 a2 a4 (fWhole_withSign a1 a4))
def fWhole_shifted (a0 : Int32) (a1 : Int32) (a2 : Int64) (a4 : Int32) : Int64 :=
  (if a0 = 13 then (bn_shl a2 a4) else (if a0 = 14 then (bn_sar (fWhole_withSign a1 a2) a4) else (if a0 = 15 then (bn_shr a2 a4) else (if a0 = 16 then ((bn_shl a2 a4) ||| (bn_shr a2 ((fWhole_width a1) - a4))) else (if a0 = 17 then ((bn_shr a2 a4) ||| (bn_shl a2 ((fWhole_width a1) - a4))) else a2)))))
def fWhole_result (a0 : Int32) (a1 : Int32) (a2 : Int64) (a4 : Int64) : Int64 :=
  (if a0 = 0 then (((fWhole_width a1) - (fWhole_length a2)).toInt64) else (if a0 = 1 then (if a2 = 0 then ((fWhole_width a1).toInt64) else ((fLong_bitCount ((a2 &&& (-a2)) - 1)).toInt64)) else (if a0 = 2 then ((fLong_bitCount a2).toInt64) else (if a0 = 3 then (a2 + a4) else (if a0 = 4 then (a2 - a4) else (if a0 = 5 then (a2 * a4) else (if a0 = 6 then (fWhole_divided a0 a1 a2 a4) else (if a0 = 7 then (fWhole_divided a0 a1 a2 a4) else (if a0 = 8 then (fWhole_divided a0 a1 a2 a4) else (if a0 = 9 then (fWhole_divided a0 a1 a2 a4) else (if a0 = 10 then (a2 &&& a4) else (if a0 = 11 then (a2 ||| a4) else (if a0 = 12 then (a2 ^^^ a4) else (fWhole_shifted a0 a1 a2 (a4.toInt32 &&& ((fWhole_width a1) - 1))))))))))))))))
def fFormat_signed (a0 : Nat) (a1 : Int32) (a2 : Int64) : Int64 :=
  (if a1 = 0 then a2 else (a2 ||| (fm_signBit a0)))
def fFormat_nearest_67 (a3 : Int64) (s0 : Int32) : Int64 :=
  (if s0 = 0 then a3 else (a3 + 1))
def fFormat_nearest_66 (a3 : Int64) : Int64 :=
  (fFormat_nearest_67 a3 0)
def fFormat_nearest_62 (a3 : Int64) : Int64 :=
  (fFormat_nearest_67 a3 1)
def fFormat_nearest_38 (a3 : Int64) (a5 : Int64) (a7 : Int64) : Int64 :=
  (if a7 < a5 then (fFormat_nearest_62 a3) else (if a5 = a7 then (if (a3 &&& 1) = 0 then (fFormat_nearest_66 a3) else (fFormat_nearest_62 a3)) else (fFormat_nearest_66 a3)))
def fFormat_nearest_31 (a2 : Int32) (a3 : Int64) (a5 : Int64) : Int64 :=
  (fFormat_nearest_38 a3 a5 (bn_shl 1 (a2 - 1)))
def fFormat_nearest_24 (a0 : Int64) (a2 : Int32) (a3 : Int64) : Int64 :=
  (fFormat_nearest_31 a2 a3 (a0 - (bn_shl a3 a2)))
def fFormat_nearest_10 (a0 : Int64) (a2 : Int32) : Int64 :=
  (if 0 < a2 then 0 else a0)
def fFormat_nearest (a0 : Int64) (a2 : Int32) : Int64 :=
  (if a2 ≤ 0 then (fFormat_nearest_10 a0 a2) else (if a2 ≤ 63 then (fFormat_nearest_24 a0 a2 (bn_shr a0 a2)) else (fFormat_nearest_10 a0 a2)))
def fFormat_rounded_96 (a0 : Nat) (a1 : Int32) (a7 : Int32) (a9 : Int64) : Int64 :=
  (fFormat_signed a0 a1 ((bn_shl a7.toInt64 ((fm_places a0) - 1)) + a9))
def fFormat_rounded_94 (a0 : Nat) (a1 : Int32) (a7 : Int32) (s0 : Int64) : Int64 :=
  (fFormat_rounded_96 a0 a1 a7 s0)
def fFormat_rounded_75 (a0 : Nat) (a1 : Int32) (a2 : Int64) (a7 : Int32) (a8 : Int32) : Int64 :=
  (if 0 ≤ a8 then (fFormat_rounded_94 a0 a1 a7 (fFormat_nearest a2 a8)) else (fFormat_rounded_94 a0 a1 a7 (bn_shl a2 (-a8))))
def fFormat_rounded_47 (a0 : Nat) (a1 : Int32) (a2 : Int64) (a4 : Int32) (a6 : Int32) (a7 : Int32) : Int64 :=
  (if a7 < ((fm_greatestExponent a0) - 1) then (fFormat_rounded_75 a0 a1 a2 a7 (a6 - a4)) else (fFormat_signed a0 a1 (fm_infinite a0)))
def fFormat_rounded_38 (a0 : Nat) (a1 : Int32) (a2 : Int64) (a4 : Int32) (a6 : Int32) : Int64 :=
  (fFormat_rounded_47 a0 a1 a2 a4 a6 (a6 - (fm_leastScale a0)))
def fFormat_rounded_19 (a0 : Nat) (a1 : Int32) (a2 : Int64) (a4 : Int32) (a5 : Int32) : Int64 :=
  (fFormat_rounded_38 a0 a1 a2 a4 (fMath_max ((a4 + a5) - (fm_places a0)) (fm_leastScale a0)))
def fFormat_rounded (a0 : Nat) (a1 : Int32) (a2 : Int64) (a4 : Int32) : Int64 :=
  (if a2 = 0 then (fFormat_signed a0 a1 0) else (fFormat_rounded_19 a0 a1 a2 a4 (fWhole_length a2)))
def fFloating_wholeNumber_132 (s0 : Int64) (s1 : Int32) (s2 : Nat) : Int64 :=
  (fFormat_rounded s2 s1 s0 0)
def fFloating_wholeNumber_130 (a9 : Int64) (s0 : Int32) (s1 : Nat) : Int64 :=
  (fFloating_wholeNumber_132 a9 s0 s1)
def fFloating_wholeNumber_108 (a1 : Nat) (a5 : Int32) (a9 : Int64) (a11 : Int32) (s0 : Int32) : Int64 :=
  (if a11 = 0 then (fFloating_wholeNumber_130 a9 a5 a1) else (if s0 = 0 then (fFloating_wholeNumber_130 a9 a5 a1) else (fFloating_wholeNumber_132 (a9 + 1) a5 a1)))
def fFloating_wholeNumber_107 (a1 : Nat) (a5 : Int32) (a9 : Int64) (a11 : Int32) : Int64 :=
  (fFloating_wholeNumber_108 a1 a5 a9 a11 0)
def fFloating_wholeNumber_103 (a1 : Nat) (a5 : Int32) (a9 : Int64) (a11 : Int32) : Int64 :=
  (fFloating_wholeNumber_108 a1 a5 a9 a11 1)
def fFloating_wholeNumber_93 (a0 : Int32) (a1 : Nat) (a5 : Int32) (a9 : Int64) (a11 : Int32) : Int64 :=
  (if a0 = 3 then (if a5 = 0 then (fFloating_wholeNumber_107 a1 a5 a9 a11) else (fFloating_wholeNumber_103 a1 a5 a9 a11)) else (fFloating_wholeNumber_107 a1 a5 a9 a11))
def fFloating_wholeNumber_81 (a0 : Int32) (a1 : Nat) (a5 : Int32) (a9 : Int64) (s0 : Int32) : Int64 :=
  (if a0 = 2 then (if a5 = 0 then (fFloating_wholeNumber_103 a1 a5 a9 s0) else (fFloating_wholeNumber_93 a0 a1 a5 a9 s0)) else (fFloating_wholeNumber_93 a0 a1 a5 a9 s0))
def fFloating_wholeNumber_65 (a0 : Int32) (a1 : Nat) (a5 : Int32) (a6 : Int64) (a8 : Int32) (a9 : Int64) : Int64 :=
  (if (bn_shl a9 a8) = a6 then (fFloating_wholeNumber_81 a0 a1 a5 a9 0) else (fFloating_wholeNumber_81 a0 a1 a5 a9 1))
def fFloating_wholeNumber_58 (a0 : Int32) (a1 : Nat) (a5 : Int32) (a6 : Int64) (a8 : Int32) : Int64 :=
  (fFloating_wholeNumber_65 a0 a1 a5 a6 a8 (bn_shr a6 a8))
def fFloating_wholeNumber_29 (a0 : Int32) (a1 : Nat) (a4 : Int32) (a5 : Int32) (a6 : Int64) : Int64 :=
  (if a0 = 5 then (fFormat_rounded a1 a5 (fFormat_nearest a6 a4) 0) else (fFloating_wholeNumber_58 a0 a1 a5 a6 (fMath_min a4 63)))
def fFloating_wholeNumber_22 (a0 : Int32) (a1 : Nat) (a2 : Int64) (a4 : Int32) (a5 : Int32) : Int64 :=
  (fFloating_wholeNumber_29 a0 a1 a4 a5 (fFormat_significand a1 a2))
def fFloating_wholeNumber_8 (a0 : Int32) (a1 : Nat) (a2 : Int64) (a4 : Int32) : Int64 :=
  (if 0 < a4 then (fFloating_wholeNumber_22 a0 a1 a2 a4 (fFormat_isNegative a1 a2)) else a2)
def fFloating_wholeNumber (a0 : Int32) (a1 : Nat) (a2 : Int64) : Int64 :=
  (fFloating_wholeNumber_8 a0 a1 a2 (-(fFormat_scale a1 a2)))
def fFormat_isZero (a0 : Nat) (a1 : Int64) : Int32 :=
  (if (a1 &&& ((fm_signBit a0) ^^^ (-1))) = 0 then 1 else 0)
def fFormat_isInfinite (a0 : Nat) (a1 : Int64) : Int32 :=
  (if (a1 &&& ((fm_signBit a0) ^^^ (-1))) = (fm_infinite a0) then 1 else 0)
def fFloating_lift (a0 : Int64) : Int32 :=
  (62 - (fWhole_length a0))
def fFloating_root_177 (a10 : Int32) (s0 : Int64) (s1 : Int32) (s2 : Nat) : Int64 :=
  (fFormat_rounded s2 s1 s0 a10)
def fFloating_root_136 (K : Nat → Int64 → Int32 → Int64 → Int64 → Int64 → Int32 → Int64) (a0 : Nat) (a1 : Int64) (a3 : Int32) (a4 : Int64) (a6 : Int64) (a8 : Int64) (a10 : Int32) : Int64 :=
  (K a0 a1 a3 a4 a6 a8 (a10 + 1))
def fFloating_root_130 (K : Nat → Int64 → Int32 → Int64 → Int64 → Int64 → Int32 → Int64) (a0 : Nat) (a1 : Int64) (a3 : Int32) (a4 : Int64) (a6 : Int64) (a8 : Int64) (a10 : Int32) : Int64 :=
  (fFloating_root_136 K a0 a1 a3 a4 (a6 ||| 1) a8 a10)
def fFloating_root_115 (K : Nat → Int64 → Int32 → Int64 → Int64 → Int64 → Int32 → Int64) (a0 : Nat) (a1 : Int64) (a3 : Int32) (a4 : Int64) (a6 : Int64) (a8 : Int64) (a10 : Int32) (a11 : Int64) : Int64 :=
  (if a8 < a11 then (fFloating_root_136 K a0 a1 a3 a4 a6 a8 a10) else (fFloating_root_130 K a0 a1 a3 a4 a6 (a8 - a11) a10))
def fFloating_root_109 (K : Nat → Int64 → Int32 → Int64 → Int64 → Int64 → Int32 → Int64) (a0 : Nat) (a1 : Int64) (a3 : Int32) (a4 : Int64) (a6 : Int64) (a8 : Int64) (a10 : Int32) (a11 : Int64) : Int64 :=
  (fFloating_root_115 K a0 a1 a3 a4 (bn_shl a6 1) a8 a10 a11)
def fFloating_root_101 (K : Nat → Int64 → Int32 → Int64 → Int64 → Int64 → Int32 → Int64) (a0 : Nat) (a1 : Int64) (a3 : Int32) (a4 : Int64) (a6 : Int64) (a8 : Int64) (a10 : Int32) : Int64 :=
  (fFloating_root_109 K a0 a1 a3 a4 a6 a8 a10 ((bn_shl a6 2) ||| 1))
def fFloating_root_95 (K : Nat → Int64 → Int32 → Int64 → Int64 → Int64 → Int32 → Int64) (a0 : Nat) (a1 : Int64) (a3 : Int32) (a4 : Int64) (a6 : Int64) (a8 : Int64) (a10 : Int32) : Int64 :=
  (fFloating_root_101 K a0 a1 a3 (bn_shl a4 2) a6 a8 a10)
def fFloating_root_72 : Nat → Nat → Int64 → Int32 → Int64 → Int64 → Int64 → Int32 → Int64
  | 0, _, _, _, _, _, _, _ => 0
  | n + 1, a0, a1, a3, a4, a6, a8, a10 =>
    (if 57 ≤ a10 then (if a8 = 0 then (fFloating_root_177 (((((fFormat_scale a0 a1) - a3) / 2) + 31) - 57) a6 0 a0) else (fFloating_root_177 (((((fFormat_scale a0 a1) - a3) / 2) + 31) - 57) (a6 ||| 1) 0 a0)) else (fFloating_root_95 (fFloating_root_72 n) a0 a1 a3 a4 a6 ((bn_shl a8 2) ||| ((bn_shr a4 60) &&& 3)) a10))
def fFloating_root_63 (a0 : Nat) (a1 : Int64) (a3 : Int32) (a4 : Int64) : Int64 :=
  (fFloating_root_72 58 a0 a1 a3 a4 0 0 0)
def fFloating_root_54 (a0 : Nat) (a1 : Int64) (a3 : Int32) : Int64 :=
  (fFloating_root_63 a0 a1 a3 (bn_shl (fFormat_significand a0 a1) a3))
def fFloating_root_42 (a0 : Nat) (a1 : Int64) (a3 : Int32) : Int64 :=
  (fFloating_root_54 a0 a1 (a3 - (((fFormat_scale a0 a1) - a3) &&& 1)))
def fFloating_root (a0 : Nat) (a1 : Int64) : Int64 :=
  (if (fFormat_isZero a0 a1) = 0 then (if (fFormat_isNegative a0 a1) = 0 then (if (fFormat_isInfinite a0 a1) = 0 then (fFloating_root_42 a0 a1 (fFloating_lift (fFormat_significand a0 a1))) else a1) else (fm_none a0)) else a1)
def fFloating_sumWithInfinite_46 (a0 : Nat) (a1 : Int64) (a3 : Int64) : Int64 :=
  (if (fFormat_isInfinite a0 a1) = 0 then a3 else a1)
def fFloating_sumWithInfinite_21 (a0 : Nat) (a1 : Int64) (a3 : Int64) (s0 : Int32) : Int64 :=
  (if s0 = 0 then (fFloating_sumWithInfinite_46 a0 a1 a3) else (if (fFormat_isNegative a0 a1) = (fFormat_isNegative a0 a3) then (fFloating_sumWithInfinite_46 a0 a1 a3) else (fm_none a0)))
def fFloating_sumWithInfinite_20 (a0 : Nat) (a1 : Int64) (a3 : Int64) : Int64 :=
  (fFloating_sumWithInfinite_21 a0 a1 a3 0)
def fFloating_sumWithInfinite (a0 : Nat) (a1 : Int64) (a3 : Int64) : Int64 :=
  (if (fFormat_isInfinite a0 a1) = 0 then (fFloating_sumWithInfinite_20 a0 a1 a3) else (if (fFormat_isInfinite a0 a3) = 0 then (fFloating_sumWithInfinite_20 a0 a1 a3) else (fFloating_sumWithInfinite_21 a0 a1 a3 1)))
def fFloating_shiftedWithTrace_22 (a0 : Int64) (a2 : Int32) (a3 : Int64) : Int64 :=
  (if (bn_shl a3 a2) = a0 then a3 else (a3 ||| 1))
def fFloating_shiftedWithTrace (a0 : Int64) (a2 : Int32) : Int64 :=
  (if a2 ≤ 63 then (fFloating_shiftedWithTrace_22 a0 a2 (bn_shr a0 a2)) else (if a0 = 0 then 0 else 1))
def fFloating_sum_191 (a0 : Nat) (a6 : Int64) (a10 : Int32) (a16 : Int64) (a18 : Int32) : Int64 :=
  (fFormat_rounded a0 a18 a16 ((fFormat_scale a0 a6) - a10))
def fFloating_sum_189 (a0 : Nat) (a6 : Int64) (a10 : Int32) (a16 : Int64) (s0 : Int32) : Int64 :=
  (fFloating_sum_191 a0 a6 a10 a16 s0)
def fFloating_sum_179 (a0 : Nat) (a6 : Int64) (a10 : Int32) (a16 : Int64) : Int64 :=
  (fFloating_sum_189 a0 a6 a10 a16 0)
def fFloating_sum_155 (a0 : Nat) (a1 : Int64) (a6 : Int64) (a10 : Int32) (a15 : Int32) (a16 : Int64) : Int64 :=
  (if a16 = 0 then (if a15 = 0 then (fFloating_sum_179 a0 a6 a10 a16) else (if (fFormat_isNegative a0 a1) = 0 then (fFloating_sum_179 a0 a6 a10 a16) else (fFloating_sum_189 a0 a6 a10 a16 1))) else (fFloating_sum_189 a0 a6 a10 a16 (fFormat_isNegative a0 a6)))
def fFloating_sum_153 (a0 : Nat) (a1 : Int64) (a6 : Int64) (a10 : Int32) (a15 : Int32) (s0 : Int64) : Int64 :=
  (fFloating_sum_155 a0 a1 a6 a10 a15 s0)
def fFloating_sum_133 (a0 : Nat) (a1 : Int64) (a6 : Int64) (a10 : Int32) (a11 : Int64) (a13 : Int64) (s0 : Int32) : Int64 :=
  (if s0 = 0 then (fFloating_sum_153 a0 a1 a6 a10 s0 (a11 - a13)) else (fFloating_sum_153 a0 a1 a6 a10 s0 (a11 + a13)))
def fFloating_sum_115 (a0 : Nat) (a1 : Int64) (a3 : Int64) (a6 : Int64) (a10 : Int32) (a11 : Int64) (a13 : Int64) : Int64 :=
  (if (fFormat_isNegative a0 a1) = (fFormat_isNegative a0 a3) then (fFloating_sum_133 a0 a1 a6 a10 a11 a13 1) else (fFloating_sum_133 a0 a1 a6 a10 a11 a13 0))
def fFloating_sum_88 (a0 : Nat) (a1 : Int64) (a3 : Int64) (a6 : Int64) (a8 : Int64) (a10 : Int32) (a11 : Int64) : Int64 :=
  (fFloating_sum_115 a0 a1 a3 a6 a10 a11 (fFloating_shiftedWithTrace (bn_shl (fFormat_significand a0 a8) a10) ((fFormat_scale a0 a6) - (fFormat_scale a0 a8))))
def fFloating_sum_77 (a0 : Nat) (a1 : Int64) (a3 : Int64) (a6 : Int64) (a8 : Int64) (a10 : Int32) : Int64 :=
  (fFloating_sum_88 a0 a1 a3 a6 a8 a10 (bn_shl (fFormat_significand a0 a6) a10))
def fFloating_sum_66 (a0 : Nat) (a1 : Int64) (a3 : Int64) (a6 : Int64) (s0 : Int64) : Int64 :=
  (fFloating_sum_77 a0 a1 a3 a6 s0 (62 - (fm_places a0)))
def fFloating_sum_54 (a0 : Nat) (a1 : Int64) (a3 : Int64) (a5 : Int32) (s0 : Int64) : Int64 :=
  (if a5 = 0 then (fFloating_sum_66 a0 a1 a3 s0 a1) else (fFloating_sum_66 a0 a1 a3 s0 a3))
def fFloating_sum_42 (a0 : Nat) (a1 : Int64) (a3 : Int64) (s0 : Int32) : Int64 :=
  (if s0 = 0 then (fFloating_sum_54 a0 a1 a3 s0 a3) else (fFloating_sum_54 a0 a1 a3 s0 a1))
def fFloating_sum_16 (a0 : Nat) (a1 : Int64) (a3 : Int64) : Int64 :=
  (fFloating_sumWithInfinite a0 a1 a3)
def fFloating_sum (a0 : Nat) (a1 : Int64) (a3 : Int64) : Int64 :=
  (if (fFormat_isInfinite a0 a1) = 0 then (if (fFormat_isInfinite a0 a3) = 0 then (if (fFormat_magnitude a0 a1) < (fFormat_magnitude a0 a3) then (fFloating_sum_42 a0 a1 a3 0) else (fFloating_sum_42 a0 a1 a3 1)) else (fFloating_sum_16 a0 a1 a3)) else (fFloating_sum_16 a0 a1 a3))
def fFloating_highProduct_56 (a8 : Int64) (a10 : Int64) (a12 : Int64) (a14 : Int64) : Int64 :=
  (((a8 * a10) + (bn_shr a12 32)) + (bn_shr a14 32))
def fFloating_highProduct_42 (a4 : Int64) (a8 : Int64) (a10 : Int64) (a12 : Int64) : Int64 :=
  (fFloating_highProduct_56 a8 a10 a12 ((a4 * a10) + (a12 &&& 4294967295)))
def fFloating_highProduct_26 (a4 : Int64) (a6 : Int64) (a8 : Int64) (a10 : Int64) : Int64 :=
  (fFloating_highProduct_42 a4 a8 a10 ((a8 * a6) + (bn_shr (a4 * a6) 32)))
def fFloating_highProduct_20 (a2 : Int64) (a4 : Int64) (a6 : Int64) (a8 : Int64) : Int64 :=
  (fFloating_highProduct_26 a4 a6 a8 (bn_shr a2 32))
def fFloating_highProduct_14 (a0 : Int64) (a2 : Int64) (a4 : Int64) (a6 : Int64) : Int64 :=
  (fFloating_highProduct_20 a2 a4 a6 (bn_shr a0 32))
def fFloating_highProduct_7 (a0 : Int64) (a2 : Int64) (a4 : Int64) : Int64 :=
  (fFloating_highProduct_14 a0 a2 a4 (a2 &&& 4294967295))
def fFloating_highProduct (a0 : Int64) (a2 : Int64) : Int64 :=
  (fFloating_highProduct_7 a0 a2 (a0 &&& 4294967295))
def fFloating_product_188 (a15 : Int32) (s0 : Int64) (s1 : Int32) (s2 : Nat) : Int64 :=
  (fFormat_rounded s2 s1 s0 a15)
def fFloating_product_166 (a0 : Nat) (a5 : Int32) (a9 : Int64) (a11 : Int64) (a13 : Int64) (a15 : Int32) : Int64 :=
  (if (a9 * a11) = 0 then (fFloating_product_188 a15 a13 a5 a0) else (fFloating_product_188 a15 (a13 ||| 1) a5 a0))
def fFloating_product_144 (a0 : Nat) (a1 : Int64) (a3 : Int64) (a5 : Int32) (a7 : Int32) (a8 : Int32) (a9 : Int64) (a11 : Int64) (a13 : Int64) : Int64 :=
  (fFloating_product_166 a0 a5 a9 a11 a13 (((((fFormat_scale a0 a1) - a7) + (fFormat_scale a0 a3)) - a8) + 64))
def fFloating_product_135 (a0 : Nat) (a1 : Int64) (a3 : Int64) (a5 : Int32) (a7 : Int32) (a8 : Int32) (a9 : Int64) (a11 : Int64) : Int64 :=
  (fFloating_product_144 a0 a1 a3 a5 a7 a8 a9 a11 (fFloating_highProduct a9 a11))
def fFloating_product_125 (a0 : Nat) (a1 : Int64) (a3 : Int64) (a5 : Int32) (a7 : Int32) (a8 : Int32) (a9 : Int64) : Int64 :=
  (fFloating_product_135 a0 a1 a3 a5 a7 a8 a9 (bn_shl (fFormat_significand a0 a3) a8))
def fFloating_product_115 (a0 : Nat) (a1 : Int64) (a3 : Int64) (a5 : Int32) (a7 : Int32) (a8 : Int32) : Int64 :=
  (fFloating_product_125 a0 a1 a3 a5 a7 a8 (bn_shl (fFormat_significand a0 a1) a7))
def fFloating_product_105 (a0 : Nat) (a1 : Int64) (a3 : Int64) (a5 : Int32) (a7 : Int32) : Int64 :=
  (fFloating_product_115 a0 a1 a3 a5 a7 (fFloating_lift (fFormat_significand a0 a3)))
def fFloating_product_59 (a0 : Nat) (a5 : Int32) (a6 : Int32) : Int64 :=
  (if a6 = 0 then (fFormat_signed a0 a5 (fm_infinite a0)) else (fm_none a0))
def fFloating_product_41 (a0 : Nat) (a1 : Int64) (a3 : Int64) (a5 : Int32) (s0 : Int32) : Int64 :=
  (if (fFormat_isInfinite a0 a1) = 0 then (if (fFormat_isInfinite a0 a3) = 0 then (if s0 = 0 then (fFloating_product_105 a0 a1 a3 a5 (fFloating_lift (fFormat_significand a0 a1))) else (fFormat_signed a0 a5 0)) else (fFloating_product_59 a0 a5 s0)) else (fFloating_product_59 a0 a5 s0))
def fFloating_product_36 (a0 : Nat) (a1 : Int64) (a3 : Int64) (a5 : Int32) : Int64 :=
  (fFloating_product_41 a0 a1 a3 a5 1)
def fFloating_product_18 (a0 : Nat) (a1 : Int64) (a3 : Int64) (s0 : Int32) : Int64 :=
  (if (fFormat_isZero a0 a1) = 0 then (if (fFormat_isZero a0 a3) = 0 then (fFloating_product_41 a0 a1 a3 s0 0) else (fFloating_product_36 a0 a1 a3 s0)) else (fFloating_product_36 a0 a1 a3 s0))
def fFloating_product (a0 : Nat) (a1 : Int64) (a3 : Int64) : Int64 :=
  (if (fFormat_isNegative a0 a1) = (fFormat_isNegative a0 a3) then (fFloating_product_18 a0 a1 a3 0) else (fFloating_product_18 a0 a1 a3 1))
def fFloating_quotient_253 (a15 : Int32) (s0 : Int64) (s1 : Int32) (s2 : Nat) : Int64 :=
  (fFormat_rounded s2 s1 s0 a15)
def fFloating_quotient_206 (K : Nat → Int64 → Int64 → Int32 → Int32 → Int32 → Int64 → Int64 → Int64 → Int32 → Int64) (a0 : Nat) (a1 : Int64) (a3 : Int64) (a5 : Int32) (a7 : Int32) (a8 : Int32) (a9 : Int64) (a11 : Int64) (a13 : Int64) (a15 : Int32) : Int64 :=
  (K a0 a1 a3 a5 a7 a8 a9 a11 a13 (a15 + 1))
def fFloating_quotient_200 (K : Nat → Int64 → Int64 → Int32 → Int32 → Int32 → Int64 → Int64 → Int64 → Int32 → Int64) (a0 : Nat) (a1 : Int64) (a3 : Int64) (a5 : Int32) (a7 : Int32) (a8 : Int32) (a9 : Int64) (a11 : Int64) (a13 : Int64) (a15 : Int32) : Int64 :=
  (fFloating_quotient_206 K a0 a1 a3 a5 a7 a8 (bn_shl a9 1) a11 a13 a15)
def fFloating_quotient_194 (K : Nat → Int64 → Int64 → Int32 → Int32 → Int32 → Int64 → Int64 → Int64 → Int32 → Int64) (a0 : Nat) (a1 : Int64) (a3 : Int64) (a5 : Int32) (a7 : Int32) (a8 : Int32) (a9 : Int64) (a11 : Int64) (a13 : Int64) (a15 : Int32) : Int64 :=
  (fFloating_quotient_200 K a0 a1 a3 a5 a7 a8 a9 a11 (a13 ||| 1) a15)
def fFloating_quotient_179 (K : Nat → Int64 → Int64 → Int32 → Int32 → Int32 → Int64 → Int64 → Int64 → Int32 → Int64) (a0 : Nat) (a1 : Int64) (a3 : Int64) (a5 : Int32) (a7 : Int32) (a8 : Int32) (a9 : Int64) (a11 : Int64) (a13 : Int64) (a15 : Int32) : Int64 :=
  (if a9 < a11 then (fFloating_quotient_200 K a0 a1 a3 a5 a7 a8 a9 a11 a13 a15) else (fFloating_quotient_194 K a0 a1 a3 a5 a7 a8 (a9 - a11) a11 a13 a15))
def fFloating_quotient_166 : Nat → Nat → Int64 → Int64 → Int32 → Int32 → Int32 → Int64 → Int64 → Int64 → Int32 → Int64
  | 0, _, _, _, _, _, _, _, _, _, _ => 0
  | n + 1, a0, a1, a3, a5, a7, a8, a9, a11, a13, a15 =>
    (if 57 ≤ a15 then (if a9 = 0 then (fFloating_quotient_253 ((((fFormat_scale a0 a1) - a7) - ((fFormat_scale a0 a3) - a8)) - 56) a13 a5 a0) else (fFloating_quotient_253 ((((fFormat_scale a0 a1) - a7) - ((fFormat_scale a0 a3) - a8)) - 56) (a13 ||| 1) a5 a0)) else (fFloating_quotient_179 (fFloating_quotient_166 n) a0 a1 a3 a5 a7 a8 a9 a11 (bn_shl a13 1) a15))
def fFloating_quotient_160 (a0 : Nat) (a1 : Int64) (a3 : Int64) (a5 : Int32) (a7 : Int32) (a8 : Int32) (a9 : Int64) (a11 : Int64) : Int64 :=
  (fFloating_quotient_166 58 a0 a1 a3 a5 a7 a8 a9 a11 0 0)
def fFloating_quotient_150 (a0 : Nat) (a1 : Int64) (a3 : Int64) (a5 : Int32) (a7 : Int32) (a8 : Int32) (a9 : Int64) : Int64 :=
  (fFloating_quotient_160 a0 a1 a3 a5 a7 a8 a9 (bn_shl (fFormat_significand a0 a3) a8))
def fFloating_quotient_140 (a0 : Nat) (a1 : Int64) (a3 : Int64) (a5 : Int32) (a7 : Int32) (a8 : Int32) : Int64 :=
  (fFloating_quotient_150 a0 a1 a3 a5 a7 a8 (bn_shl (fFormat_significand a0 a1) a7))
def fFloating_quotient_130 (a0 : Nat) (a1 : Int64) (a3 : Int64) (a5 : Int32) (a7 : Int32) : Int64 :=
  (fFloating_quotient_140 a0 a1 a3 a5 a7 (fFloating_lift (fFormat_significand a0 a3)))
def fFloating_quotient_112 (a0 : Nat) (a5 : Int32) : Int64 :=
  (fFormat_signed a0 a5 0)
def fFloating_quotient_85 (a0 : Nat) (a5 : Int32) : Int64 :=
  (fFormat_signed a0 a5 (fm_infinite a0))
def fFloating_quotient_57 (a0 : Nat) (a1 : Int64) (a3 : Int64) (a5 : Int32) (s0 : Int32) : Int64 :=
  (if s0 = 0 then (if (fFormat_isInfinite a0 a1) = 0 then (if (fFormat_isZero a0 a3) = 0 then (if (fFormat_isZero a0 a1) = 0 then (if (fFormat_isInfinite a0 a3) = 0 then (fFloating_quotient_130 a0 a1 a3 a5 (fFloating_lift (fFormat_significand a0 a1))) else (fFloating_quotient_112 a0 a5)) else (fFloating_quotient_112 a0 a5)) else (fFloating_quotient_85 a0 a5)) else (fFloating_quotient_85 a0 a5)) else (fm_none a0))
def fFloating_quotient_56 (a0 : Nat) (a1 : Int64) (a3 : Int64) (a5 : Int32) : Int64 :=
  (fFloating_quotient_57 a0 a1 a3 a5 0)
def fFloating_quotient_52 (a0 : Nat) (a1 : Int64) (a3 : Int64) (a5 : Int32) : Int64 :=
  (fFloating_quotient_57 a0 a1 a3 a5 1)
def fFloating_quotient_36 (a0 : Nat) (a1 : Int64) (a3 : Int64) (a5 : Int32) : Int64 :=
  (if (fFormat_isInfinite a0 a1) = 0 then (fFloating_quotient_56 a0 a1 a3 a5) else (if (fFormat_isInfinite a0 a3) = 0 then (fFloating_quotient_56 a0 a1 a3 a5) else (fFloating_quotient_52 a0 a1 a3 a5)))
def fFloating_quotient_18 (a0 : Nat) (a1 : Int64) (a3 : Int64) (s0 : Int32) : Int64 :=
  (if (fFormat_isZero a0 a1) = 0 then (fFloating_quotient_36 a0 a1 a3 s0) else (if (fFormat_isZero a0 a3) = 0 then (fFloating_quotient_36 a0 a1 a3 s0) else (fFloating_quotient_52 a0 a1 a3 s0)))
def fFloating_quotient (a0 : Nat) (a1 : Int64) (a3 : Int64) : Int64 :=
  (if (fFormat_isNegative a0 a1) = (fFormat_isNegative a0 a3) then (fFloating_quotient_18 a0 a1 a3 0) else (fFloating_quotient_18 a0 a1 a3 1))
def fFloating_orderWithZeros_6 (a0 : Nat) (a1 : Int64) (a3 : Int64) : Int64 :=
  (if (fFormat_isNegative a0 a1) = 0 then a3 else (a3 ^^^ (-1)))
def fFloating_orderWithZeros (a0 : Nat) (a1 : Int64) : Int64 :=
  (fFloating_orderWithZeros_6 a0 a1 (fFormat_magnitude a0 a1))
def fFloating_calculated (a0 : Int32) (a1 : Nat) (a2 : Int64) (a4 : Int64) : Int64 :=
  (if a0 = 2 then (fFloating_wholeNumber a0 a1 a2) else (if a0 = 3 then (fFloating_wholeNumber a0 a1 a2) else (if a0 = 4 then (fFloating_wholeNumber a0 a1 a2) else (if a0 = 5 then (fFloating_wholeNumber a0 a1 a2) else (if a0 = 6 then (fFloating_root a1 a2) else (if a0 = 7 then (fFloating_sum a1 a2 a4) else (if a0 = 8 then (fFloating_sum a1 a2 (a4 ^^^ (fm_signBit a1))) else (if a0 = 9 then (fFloating_product a1 a2 a4) else (if a0 = 10 then (fFloating_quotient a1 a2 a4) else (if a0 = 11 then (if (fFloating_orderWithZeros a1 a4) < (fFloating_orderWithZeros a1 a2) then a4 else a2) else (if a0 = 12 then (if (fFloating_orderWithZeros a1 a2) < (fFloating_orderWithZeros a1 a4) then a4 else a2) else a2)))))))))))
def fFloating_result_82 (a1 : Nat) : Int64 :=
  (fm_none a1)
def fFloating_result (a0 : Int32) (a1 : Nat) (a2 : Int64) (a4 : Int64) : Int64 :=
  (if a0 = 0 then (fFormat_magnitude a1 a2) else (if a0 = 1 then (a2 ^^^ (fm_signBit a1)) else (if a0 = 13 then (fFormat_signed a1 (fFormat_isNegative a1 a4) (fFormat_magnitude a1 a2)) else (if (fFormat_isNone a1 a2) = 0 then (if (fFormat_isNone a1 a4) = 0 then (fFloating_calculated a0 a1 a2 a4) else (fFloating_result_82 a1)) else (fFloating_result_82 a1)))))
def fConversions_towardsZero_50 (a1 : Nat) (a3 : Int64) (s0 : Int64) : Int64 :=
  (if (fFormat_isNegative a1 a3) = 0 then s0 else (-s0))
def fConversions_towardsZero_22 (a1 : Nat) (a3 : Int64) (a5 : Int64) : Int64 :=
  (if (fConversions_fits a1 a3 a5) = 0 then (fConversions_towardsZero_50 a1 a3 a5) else (fConversions_towardsZero_50 a1 a3 (fConversions_wholePart (fFormat_significand a1 a3) (fFormat_scale a1 a3))))
def fConversions_towardsZero (a0 : Int32) (a1 : Nat) (a2 : Int32) (a3 : Int64) : Int64 :=
  (if (fFormat_isNone a1 a3) = 0 then (fConversions_towardsZero_22 a1 a3 (fConversions_limit a1 a3 a2 (fConversions_isSigned a0))) else 0)
def fConversions_otherFormat (a0 : Nat) (a1 : Nat) (a2 : Int64) : Int64 :=
  (if (fFormat_isNone a0 a2) = 0 then (if (fFormat_isInfinite a0 a2) = 0 then (fFormat_rounded a1 (fFormat_isNegative a0 a2) (fFormat_significand a0 a2) (fFormat_scale a0 a2)) else (fFormat_signed a1 (fFormat_isNegative a0 a2) (fm_infinite a1))) else (fm_none a1))
def fConversions_fromWhole_49 (s0 : Int64) (s1 : Int32) (s2 : Nat) : Int64 :=
  (fFormat_rounded s2 s1 s0 0)
def fConversions_fromWhole_31 (a2 : Nat) (a5 : Int64) (s0 : Int32) : Int64 :=
  (if s0 = 0 then (fConversions_fromWhole_49 a5 s0 a2) else (fConversions_fromWhole_49 (-a5) s0 a2))
def fConversions_fromWhole_30 (a2 : Nat) (a5 : Int64) : Int64 :=
  (fConversions_fromWhole_31 a2 a5 0)
def fConversions_fromWhole_13 (a0 : Int32) (a2 : Nat) (s0 : Int64) : Int64 :=
  (if a0 = 0 then (fConversions_fromWhole_30 a2 s0) else (if 0 ≤ s0 then (fConversions_fromWhole_30 a2 s0) else (fConversions_fromWhole_31 a2 s0 1)))
def fConversions_fromWhole (a0 : Int32) (a1 : Int32) (a2 : Nat) (a3 : Int64) : Int64 :=
  (if a0 = 0 then (fConversions_fromWhole_13 a0 a2 a3) else (fConversions_fromWhole_13 a0 a2 (fWhole_withSign a1 a3)))
def fConversions_lowestWithSign (a0 : Int32) (a1 : Int64) : Int64 :=
  (if a0 = 192 then a1.toInt32.toInt8.toInt32.toInt64 else (if a0 = 193 then a1.toInt32.toInt16.toInt32.toInt64 else (if a0 = 194 then a1.toInt32.toInt8.toInt32.toInt64 else (if a0 = 195 then a1.toInt32.toInt16.toInt32.toInt64 else a1.toInt32.toInt64))))
def fConversions_result_75 (a1 : Int32) (a2 : Int32) (a3 : Int64) : Int64 :=
  (fConversions_otherFormat (fFormat_of a1) (fFormat_of a2) a3)
def fConversions_result_48 (a0 : Int32) (a1 : Int32) (a2 : Int32) (a3 : Int64) : Int64 :=
  (if a0 = 172 then (fWhole_withSign a1 a3) else (if a0 = 182 then (fConversions_result_75 a1 a2 a3) else (if a0 = 187 then (fConversions_result_75 a1 a2 a3) else (if 188 ≤ a0 then (fConversions_lowestWithSign a0 a3) else (fConversions_fromWhole (fConversions_isSigned a0) a1 (fFormat_of a2) a3)))))
def fConversions_result_46 (a3 : Int64) : Int64 :=
  a3
def fConversions_result (a0 : Int32) (a1 : Int32) (a2 : Int32) (a3 : Int64) : Int64 :=
  (if (fConversions_isTowardsZero a0) = 0 then (if a0 = 167 then (fConversions_result_46 a3) else (if a0 = 173 then (fConversions_result_46 a3) else (if a0 < 188 then (fConversions_result_48 a0 a1 a2 a3) else (if 191 < a0 then (fConversions_result_48 a0 a1 a2 a3) else (fConversions_result_46 a3))))) else (fConversions_towardsZero a0 (fFormat_of a1) a2 a3))
def fOperators_result_22 (a0 : Int32) (a1 : Int64) (a3 : Int64) (a5 : Int32) (a6 : Int32) (a7 : Int32) : Int64 :=
  (if a5 = 0 then (if (fWhole_test a6 a7 a1 a3) = 0 then 0 else 1) else (if a5 = 1 then (if (fWhole_test a6 a7 a1 a3) = 0 then 0 else 1) else (if a5 = 2 then (if (fFloating_test a6 (fFormat_of a7) a1 a3) = 0 then 0 else 1) else (if a5 = 3 then (if (fFloating_test a6 (fFormat_of a7) a1 a3) = 0 then 0 else 1) else (if a5 = 4 then (fWhole_result a6 a7 a1 a3) else (if a5 = 5 then (fWhole_result a6 a7 a1 a3) else (if a5 = 6 then (fFloating_result a6 (fFormat_of a7) a1 a3) else (if a5 = 7 then (fFloating_result a6 (fFormat_of a7) a1 a3) else (fConversions_result a0 a7 (fOperators_resultType a0) a1)))))))))
def fOperators_result_16 (a0 : Int32) (a1 : Int64) (a3 : Int64) (a5 : Int32) (a6 : Int32) : Int64 :=
  (fOperators_result_22 a0 a1 a3 a5 a6 (fOperators_operandType a0))
def fOperators_result_6 (a0 : Int32) (a1 : Int64) (a3 : Int64) (a5 : Int32) : Int64 :=
  (fOperators_result_16 a0 a1 a3 a5 (a0 - (tb 0 a5.toNatClampNeg)))
def fOperators_result (a0 : Int32) (a1 : Int64) (a3 : Int64) : Int64 :=
  (fOperators_result_6 a0 a1 a3 (fOperators_family a0))
def fFormat_kind (a0 : Nat) (a1 : Int64) : Int32 :=
  (if (fFormat_isNone a0 a1) = 0 then (if (fFormat_isInfinite a0 a1) = 0 then (if (fFormat_isZero a0 a1) = 0 then (if (fFormat_exponent a0 a1) = 0 then 1 else 2) else 0) else 3) else 4)
end
section
theorem pw_zi {c : Prop} [Decidable c] {a b : Int32} (h1 : a = 0 ∨ a = 1) (h2 : b = 0 ∨ b = 1) : (if c then a else b) = 0 ∨ (if c then a else b) = 1 := by
  split <;> assumption
theorem zOperators_exists_34  : fOperators_exists_34 = 0 ∨ fOperators_exists_34 = 1 := by
  unfold fOperators_exists_34
  repeat' (with_reducible refine pw_zi ?_ ?_)
  all_goals first | exact Or.inl rfl | exact Or.inr rfl | assumption

theorem zOperators_exists_30  : fOperators_exists_30 = 0 ∨ fOperators_exists_30 = 1 := by
  unfold fOperators_exists_30
  repeat' (with_reducible refine pw_zi ?_ ?_)
  all_goals first | exact Or.inl rfl | exact Or.inr rfl | assumption | (apply zOperators_exists_34 <;> first | exact Or.inl rfl | exact Or.inr rfl | assumption)

theorem zOperators_exists_16 (a0 : Int32) : fOperators_exists_16 a0 = 0 ∨ fOperators_exists_16 a0 = 1 := by
  unfold fOperators_exists_16
  repeat' (with_reducible refine pw_zi ?_ ?_)
  all_goals first | exact Or.inl rfl | exact Or.inr rfl | assumption | (apply zOperators_exists_30 <;> first | exact Or.inl rfl | exact Or.inr rfl | assumption) | (apply zOperators_exists_34 <;> first | exact Or.inl rfl | exact Or.inr rfl | assumption)

theorem zOperators_exists (a0 : Int32) : fOperators_exists a0 = 0 ∨ fOperators_exists a0 = 1 := by
  unfold fOperators_exists
  repeat' (with_reducible refine pw_zi ?_ ?_)
  all_goals first | exact Or.inl rfl | exact Or.inr rfl | assumption | (apply zOperators_exists_16 <;> first | exact Or.inl rfl | exact Or.inr rfl | assumption) | (apply zOperators_exists_30 <;> first | exact Or.inl rfl | exact Or.inr rfl | assumption) | (apply zOperators_exists_34 <;> first | exact Or.inl rfl | exact Or.inr rfl | assumption)

theorem zConversions_isTowardsZero_35  : fConversions_isTowardsZero_35 = 0 ∨ fConversions_isTowardsZero_35 = 1 := by
  unfold fConversions_isTowardsZero_35
  repeat' (with_reducible refine pw_zi ?_ ?_)
  all_goals first | exact Or.inl rfl | exact Or.inr rfl | assumption

theorem zConversions_isTowardsZero_28 (a0 : Int32) : fConversions_isTowardsZero_28 a0 = 0 ∨ fConversions_isTowardsZero_28 a0 = 1 := by
  unfold fConversions_isTowardsZero_28
  repeat' (with_reducible refine pw_zi ?_ ?_)
  all_goals first | exact Or.inl rfl | exact Or.inr rfl | assumption | (apply zConversions_isTowardsZero_35 <;> first | exact Or.inl rfl | exact Or.inr rfl | assumption)

theorem zConversions_isTowardsZero_14 (a0 : Int32) : fConversions_isTowardsZero_14 a0 = 0 ∨ fConversions_isTowardsZero_14 a0 = 1 := by
  unfold fConversions_isTowardsZero_14
  repeat' (with_reducible refine pw_zi ?_ ?_)
  all_goals first | exact Or.inl rfl | exact Or.inr rfl | assumption | (apply zConversions_isTowardsZero_28 <;> first | exact Or.inl rfl | exact Or.inr rfl | assumption) | (apply zConversions_isTowardsZero_35 <;> first | exact Or.inl rfl | exact Or.inr rfl | assumption)

theorem zConversions_isTowardsZero (a0 : Int32) : fConversions_isTowardsZero a0 = 0 ∨ fConversions_isTowardsZero a0 = 1 := by
  unfold fConversions_isTowardsZero
  repeat' (with_reducible refine pw_zi ?_ ?_)
  all_goals first | exact Or.inl rfl | exact Or.inr rfl | assumption | (apply zConversions_isTowardsZero_14 <;> first | exact Or.inl rfl | exact Or.inr rfl | assumption) | (apply zConversions_isTowardsZero_28 <;> first | exact Or.inl rfl | exact Or.inr rfl | assumption) | (apply zConversions_isTowardsZero_35 <;> first | exact Or.inl rfl | exact Or.inr rfl | assumption)

theorem zFormat_isNone (a0 : Nat) (a1 : Int64) : fFormat_isNone a0 a1 = 0 ∨ fFormat_isNone a0 a1 = 1 := by
  unfold fFormat_isNone
  repeat' (with_reducible refine pw_zi ?_ ?_)
  all_goals first | exact Or.inl rfl | exact Or.inr rfl | assumption

theorem zConversions_isSigned_38 (a1 : Int32) (hz1 : a1 = 0 ∨ a1 = 1) : fConversions_isSigned_38 a1 = 0 ∨ fConversions_isSigned_38 a1 = 1 := by
  unfold fConversions_isSigned_38
  repeat' (with_reducible refine pw_zi ?_ ?_)
  all_goals first | exact Or.inl rfl | exact Or.inr rfl | assumption

theorem zConversions_isSigned_11 (a0 : Int32) (s0 : Int32) (hzs0 : s0 = 0 ∨ s0 = 1) : fConversions_isSigned_11 a0 s0 = 0 ∨ fConversions_isSigned_11 a0 s0 = 1 := by
  unfold fConversions_isSigned_11
  repeat' (with_reducible refine pw_zi ?_ ?_)
  all_goals first | exact Or.inl rfl | exact Or.inr rfl | assumption | (apply zConversions_isSigned_38 <;> first | exact Or.inl rfl | exact Or.inr rfl | assumption)

theorem zConversions_isSigned (a0 : Int32) : fConversions_isSigned a0 = 0 ∨ fConversions_isSigned a0 = 1 := by
  unfold fConversions_isSigned
  repeat' (with_reducible refine pw_zi ?_ ?_)
  all_goals first | exact Or.inl rfl | exact Or.inr rfl | assumption | (apply zConversions_isSigned_11 <;> first | exact Or.inl rfl | exact Or.inr rfl | assumption) | (apply zConversions_isSigned_38 <;> first | exact Or.inl rfl | exact Or.inr rfl | assumption)

theorem zFormat_isNegative (a0 : Nat) (a1 : Int64) : fFormat_isNegative a0 a1 = 0 ∨ fFormat_isNegative a0 a1 = 1 := by
  unfold fFormat_isNegative
  repeat' (with_reducible refine pw_zi ?_ ?_)
  all_goals first | exact Or.inl rfl | exact Or.inr rfl | assumption

theorem zConversions_fits_14 (a3 : Int64) (a5 : Int64) (a7 : Int32) : fConversions_fits_14 a3 a5 a7 = 0 ∨ fConversions_fits_14 a3 a5 a7 = 1 := by
  unfold fConversions_fits_14
  repeat' (with_reducible refine pw_zi ?_ ?_)
  all_goals first | exact Or.inl rfl | exact Or.inr rfl | assumption

theorem zConversions_fits_7 (a0 : Nat) (a1 : Int64) (a3 : Int64) (a5 : Int64) : fConversions_fits_7 a0 a1 a3 a5 = 0 ∨ fConversions_fits_7 a0 a1 a3 a5 = 1 := by
  unfold fConversions_fits_7
  repeat' (with_reducible refine pw_zi ?_ ?_)
  all_goals first | exact Or.inl rfl | exact Or.inr rfl | assumption | (apply zConversions_fits_14 <;> first | exact Or.inl rfl | exact Or.inr rfl | assumption)

theorem zConversions_fits (a0 : Nat) (a1 : Int64) (a3 : Int64) : fConversions_fits a0 a1 a3 = 0 ∨ fConversions_fits a0 a1 a3 = 1 := by
  unfold fConversions_fits
  repeat' (with_reducible refine pw_zi ?_ ?_)
  all_goals first | exact Or.inl rfl | exact Or.inr rfl | assumption | (apply zConversions_fits_7 <;> first | exact Or.inl rfl | exact Or.inr rfl | assumption) | (apply zConversions_fits_14 <;> first | exact Or.inl rfl | exact Or.inr rfl | assumption)

theorem zWhole_test_24 (a0 : Int32) (a2 : Int64) (a4 : Int64) (a6 : Int32) (a7 : Int32) : fWhole_test_24 a0 a2 a4 a6 a7 = 0 ∨ fWhole_test_24 a0 a2 a4 a6 a7 = 1 := by
  unfold fWhole_test_24
  repeat' (with_reducible refine pw_zi ?_ ?_)
  all_goals first | exact Or.inl rfl | exact Or.inr rfl | assumption

theorem zWhole_test_16 (a0 : Int32) (a2 : Int64) (a4 : Int64) (a6 : Int32) : fWhole_test_16 a0 a2 a4 a6 = 0 ∨ fWhole_test_16 a0 a2 a4 a6 = 1 := by
  unfold fWhole_test_16
  repeat' (with_reducible refine pw_zi ?_ ?_)
  all_goals first | exact Or.inl rfl | exact Or.inr rfl | assumption | (apply zWhole_test_24 <;> first | exact Or.inl rfl | exact Or.inr rfl | assumption)

theorem zWhole_test (a0 : Int32) (a1 : Int32) (a2 : Int64) (a4 : Int64) : fWhole_test a0 a1 a2 a4 = 0 ∨ fWhole_test a0 a1 a2 a4 = 1 := by
  unfold fWhole_test
  repeat' (with_reducible refine pw_zi ?_ ?_)
  all_goals first | exact Or.inl rfl | exact Or.inr rfl | assumption | (apply zWhole_test_16 <;> first | exact Or.inl rfl | exact Or.inr rfl | assumption) | (apply zWhole_test_24 <;> first | exact Or.inl rfl | exact Or.inr rfl | assumption)

theorem zFloating_test_44 (a0 : Int32) (a6 : Int32) : fFloating_test_44 a0 a6 = 0 ∨ fFloating_test_44 a0 a6 = 1 := by
  unfold fFloating_test_44
  repeat' (with_reducible refine pw_zi ?_ ?_)
  all_goals first | exact Or.inl rfl | exact Or.inr rfl | assumption | (apply zFormat_isNone <;> first | exact Or.inl rfl | exact Or.inr rfl | assumption)

theorem zFloating_test_17 (a0 : Int32) : fFloating_test_17 a0 = 0 ∨ fFloating_test_17 a0 = 1 := by
  unfold fFloating_test_17
  repeat' (with_reducible refine pw_zi ?_ ?_)
  all_goals first | exact Or.inl rfl | exact Or.inr rfl | assumption | (apply zFloating_test_44 <;> first | exact Or.inl rfl | exact Or.inr rfl | assumption | apply zFormat_isNone) | (apply zFormat_isNone <;> first | exact Or.inl rfl | exact Or.inr rfl | assumption)

theorem zFloating_test (a0 : Int32) (a1 : Nat) (a2 : Int64) (a4 : Int64) : fFloating_test a0 a1 a2 a4 = 0 ∨ fFloating_test a0 a1 a2 a4 = 1 := by
  unfold fFloating_test
  repeat' (with_reducible refine pw_zi ?_ ?_)
  all_goals first | exact Or.inl rfl | exact Or.inr rfl | assumption | (apply zFloating_test_17 <;> first | exact Or.inl rfl | exact Or.inr rfl | assumption | apply zFormat_isNone) | (apply zFloating_test_44 <;> first | exact Or.inl rfl | exact Or.inr rfl | assumption | apply zFormat_isNone) | (apply zFormat_isNone <;> first | exact Or.inl rfl | exact Or.inr rfl | assumption)

theorem zFormat_isZero (a0 : Nat) (a1 : Int64) : fFormat_isZero a0 a1 = 0 ∨ fFormat_isZero a0 a1 = 1 := by
  unfold fFormat_isZero
  repeat' (with_reducible refine pw_zi ?_ ?_)
  all_goals first | exact Or.inl rfl | exact Or.inr rfl | assumption

theorem zFormat_isInfinite (a0 : Nat) (a1 : Int64) : fFormat_isInfinite a0 a1 = 0 ∨ fFormat_isInfinite a0 a1 = 1 := by
  unfold fFormat_isInfinite
  repeat' (with_reducible refine pw_zi ?_ ?_)
  all_goals first | exact Or.inl rfl | exact Or.inr rfl | assumption
end
section
theorem bn_u_or (x y : Int64) : bn_u (x ||| y) = bn_u x ||| bn_u y := by simp [bn_u]
theorem bn_bc_ones : ∀ n : Nat, n < 65 → fLong_bitCount (Int64.ofNat (2^n - 1)) = Int32.ofNat n := by decide +kernel
def bn_fill (s L x : Nat) : Prop := x < 2^L ∧ ∀ i, i < L → L ≤ i + s → x.testBit i = true
theorem bn_fill_next {s L x : Nat} (h : bn_fill s L x) : bn_fill (2*s) L (x ||| x / 2^s) := by
  refine ⟨Nat.or_lt_two_pow h.1 (Nat.lt_of_le_of_lt (Nat.div_le_self _ _) h.1), fun i h1 h2 => ?_⟩
  rw [Nat.testBit_or, Nat.testBit_div_two_pow]
  by_cases q : L ≤ i + s
  · rw [h.2 i h1 q]; rfl
  · rw [h.2 (i + s) (by omega) (by omega)]; simp
theorem bn_fill_first {x : Nat} : bn_fill 1 (bn_len x) x := by
  refine ⟨bn_len_lt x, fun i h1 h2 => ?_⟩
  have e : i = bn_len x - 1 := by omega
  have hx : 0 < x := by
    rcases Nat.eq_zero_or_pos x with q | q
    · subst q; rw [bn_len_zero] at h1; omega
    · exact q
  have h3 := bn_len_ge hx
  have h4 := bn_len_lt x
  rw [e]
  rw [show bn_len x = bn_len x - 1 + 1 by omega] at h4
  exact Nat.testBit_of_two_pow_le_and_two_pow_add_one_gt h3 h4
theorem bn_fill_all {s L x : Nat} (h : bn_fill s L x) (hs : L ≤ s) : x = 2^L - 1 := by
  apply Nat.eq_of_testBit_eq
  intro i
  rw [Nat.testBit_two_pow_sub_one]
  by_cases q : i < L
  · rw [h.2 i q (by omega)]; simp [q]
  · rw [Nat.testBit_lt_two_pow (Nat.lt_of_lt_of_le h.1 (Nat.pow_le_pow_right (by decide) (by omega)))]; simp [q]

theorem bn_u_ofNat {n : Nat} (h : n < 2^64) : bn_u (Int64.ofNat n) = n := by
  show (BitVec.ofNat 64 n).toNat = n
  rw [BitVec.toNat_ofNat]; exact Nat.mod_eq_of_lt h
theorem bn_shr_lit (x : Int64) (y : Int32) (k : Nat) (h : (y.toInt % 64).toNat = k) : bn_u (bn_shr x y) = bn_u x / 2^k := by
  rw [bn_u_shr, h]
theorem bn_fill_step {s L : Nat} {x : Int64} (y : Int32) (h : bn_fill s L (bn_u x)) (hy : (y.toInt % 64).toNat = s) : bn_fill (2*s) L (bn_u (x ||| bn_shr x y)) := by
  rw [bn_u_or, bn_shr_lit _ _ _ hy]; exact bn_fill_next h
theorem bn_length (x : Int64) : fWhole_length x = Int32.ofNat (bn_len (bn_u x)) := by
  have h0 := bn_fill_first (x := bn_u x)
  have h1 := bn_fill_step 1 h0 (by decide)
  have h2 := bn_fill_step 2 h1 (by decide)
  have h3 := bn_fill_step 4 h2 (by decide)
  have h4 := bn_fill_step 8 h3 (by decide)
  have h5 := bn_fill_step 16 h4 (by decide)
  have h6 := bn_fill_step 32 h5 (by decide)
  have hL : bn_len (bn_u x) ≤ 64 := bn_len_le.mpr (bn_u_lt x)
  have h7 := bn_fill_all h6 (by omega)
  simp only [fWhole_length, fWhole_length_5, fWhole_length_19]
  rw [if_neg (by decide), if_neg (by decide), if_neg (by decide), if_neg (by decide), if_neg (by decide), if_neg (by decide), if_pos (by decide)]
  rw [← bn_bc_ones _ (show bn_len (bn_u x) < 65 by omega)]
  congr 1
  apply bn_u_inj
  rw [bn_u_ofNat]
  · exact h7
  · exact Nat.lt_of_lt_of_le (Nat.sub_lt (Nat.two_pow_pos _) (by decide)) (Nat.pow_le_pow_right (by decide) hL)

theorem bn_u_add (x y : Int64) : bn_u (x + y) = (bn_u x + bn_u y) % 2^64 := by
  simp [bn_u, Int64.toBitVec_add, BitVec.toNat_add]
theorem bn_u_sub (x y : Int64) : bn_u (x - y) = (2^64 - bn_u y + bn_u x) % 2^64 := by
  simp [bn_u, Int64.toBitVec_sub, BitVec.toNat_sub]
theorem bn_u_mul (x y : Int64) : bn_u (x * y) = (bn_u x * bn_u y) % 2^64 := by
  simp [bn_u, Int64.toBitVec_mul, BitVec.toNat_mul]
theorem bn_u_and (x y : Int64) : bn_u (x &&& y) = bn_u x &&& bn_u y := by simp [bn_u]
theorem bn_u_xor (x y : Int64) : bn_u (x ^^^ y) = bn_u x ^^^ bn_u y := by simp [bn_u]
theorem bn_u_neg (x : Int64) : bn_u (-x) = (2^64 - bn_u x) % 2^64 := by
  simp [bn_u, Int64.toBitVec_neg, BitVec.toNat_neg]
theorem bn_u_zero {x : Int64} : x = 0 ↔ bn_u x = 0 := ⟨fun h => by rw [h]; rfl, fun h => bn_u_inj (by rw [h]; rfl)⟩
theorem bn_u_eq {x y : Int64} : x = y ↔ bn_u x = bn_u y := ⟨fun h => by rw [h], bn_u_inj⟩
theorem bn_s_pos {x : Int64} (h : bn_u x < 2^63) : x.toInt = bn_u x := by rw [bn_s_u, if_pos h]
theorem bn_lt {x y : Int64} (hx : bn_u x < 2^63) (hy : bn_u y < 2^63) : x < y ↔ bn_u x < bn_u y := by
  rw [Int64.lt_iff_toInt_lt, bn_s_pos hx, bn_s_pos hy]; omega
theorem bn_le {x y : Int64} (hx : bn_u x < 2^63) (hy : bn_u y < 2^63) : x ≤ y ↔ bn_u x ≤ bn_u y := by
  rw [Int64.le_iff_toInt_le, bn_s_pos hx, bn_s_pos hy]; omega
theorem bn_i_add {a b : Int32} (h : -2^31 ≤ a.toInt + b.toInt ∧ a.toInt + b.toInt < 2^31) : (a + b).toInt = a.toInt + b.toInt := by
  rw [Int32.toInt_add, Int.bmod_eq_of_le] <;> omega
theorem bn_i_sub {a b : Int32} (h : -2^31 ≤ a.toInt - b.toInt ∧ a.toInt - b.toInt < 2^31) : (a - b).toInt = a.toInt - b.toInt := by
  rw [Int32.toInt_sub, Int.bmod_eq_of_le] <;> omega
theorem bn_i_neg {a : Int32} (h : -2^31 < a.toInt) : (-a).toInt = -a.toInt := by
  have := a.toInt_lt
  rw [Int32.toInt_neg, Int.bmod_eq_of_le] <;> omega
theorem bn_i_ofNat {n : Nat} (h : n < 2^31) : (Int32.ofNat n).toInt = n := Int32.toInt_ofNat_of_lt h
theorem bn_nearest_low (m : Int64) (d : Int32) (h : d.toInt ≤ 0) : fFormat_nearest m d = m := by
  have h1 : d ≤ 0 := by rw [Int32.le_iff_toInt_le]; exact h
  have h2 : ¬ 0 < d := by rw [Int32.lt_iff_toInt_lt]; exact fun q => by have : (0 : Int32).toInt = 0 := rfl; omega
  unfold fFormat_nearest
  rw [if_pos h1, fFormat_nearest_10, if_neg h2]
theorem bn_nearest_high (m : Int64) (d : Int32) (h : 63 < d.toInt) : fFormat_nearest m d = 0 := by
  have z : (0 : Int32).toInt = 0 := rfl
  have z2 : (63 : Int32).toInt = 63 := rfl
  have h1 : ¬ d ≤ 0 := by rw [Int32.le_iff_toInt_le]; omega
  have h2 : 0 < d := by rw [Int32.lt_iff_toInt_lt]; omega
  have h3 : ¬ d ≤ 63 := by rw [Int32.le_iff_toInt_le]; omega
  unfold fFormat_nearest
  rw [if_neg h1, if_neg h3, fFormat_nearest_10, if_pos h2]
theorem bn_nearest (m : Int64) (d : Int32) (D : Nat) (h : d.toInt = D) (h1 : 1 ≤ D) (h2 : D ≤ 63) : bn_u (fFormat_nearest m d) = bn_rne (bn_u m) D := by
  have z : (0 : Int32).toInt = 0 := rfl
  have z2 : (63 : Int32).toInt = 63 := rfl
  have z1 : (1 : Int32).toInt = 1 := rfl
  have i1 : ¬ d ≤ 0 := by rw [Int32.le_iff_toInt_le]; omega
  have i3 : d ≤ 63 := by rw [Int32.le_iff_toInt_le]; omega
  have hd : (d.toInt % 64).toNat = D := by omega
  have hm := bn_u_lt m
  have hp := Nat.two_pow_pos D
  have k1 : bn_u (bn_shr m d) = bn_u m / 2^D := by rw [bn_u_shr, hd]
  have hdm := Nat.div_add_mod (bn_u m) (2^D)
  have hr := Nat.mod_lt (bn_u m) hp
  have hD : 2^D ≤ 2^63 := Nat.pow_le_pow_right (by decide) h2
  have k2 : bn_u (bn_shl (bn_shr m d) d) = bn_u m / 2^D * 2^D := by
    rw [bn_u_shl, hd, k1]; apply Nat.mod_eq_of_lt
    exact Nat.lt_of_le_of_lt (Nat.div_mul_le_self _ _) hm
  have k3 : bn_u (m - bn_shl (bn_shr m d) d) = bn_u m % 2^D := by
    rw [bn_u_sub, k2]; rw [Nat.mul_comm] at hdm; omega
  have hd1 : ((d - 1).toInt % 64).toNat = D - 1 := by
    rw [bn_i_sub (by rw [h, z1]; omega), h, z1]; omega
  have hD2 : 2^D = 2 * 2^(D-1) := by rw [← Nat.pow_succ']; congr 1; omega
  have k4 : bn_u (bn_shl 1 (d - 1)) = 2^(D-1) := by
    rw [bn_u_shl, hd1, show bn_u 1 = 1 from rfl, Nat.one_mul]; apply Nat.mod_eq_of_lt; omega
  have k5 : ((bn_shr m d &&& 1) = 0) ↔ bn_u m / 2^D % 2 = 0 := by
    rw [bn_u_zero, bn_u_and, k1, show bn_u 1 = 1 from rfl, Nat.and_one_is_mod]
  have k6 : bn_u (bn_shr m d + 1) = bn_u m / 2^D + 1 := by
    rw [bn_u_add, k1, show bn_u 1 = 1 from rfl]; apply Nat.mod_eq_of_lt
    have : bn_u m / 2^D ≤ bn_u m / 2^1 := Nat.div_le_div_left (Nat.pow_le_pow_right (by decide) h1) (by decide)
    omega
  unfold fFormat_nearest
  rw [if_neg i1, if_pos i3]
  simp only [fFormat_nearest_24, fFormat_nearest_31, fFormat_nearest_38, fFormat_nearest_62, fFormat_nearest_66, fFormat_nearest_67]
  have b3 : bn_u (m - bn_shl (bn_shr m d) d) < 2^63 := by omega
  have b4 : bn_u (bn_shl 1 (d - 1)) < 2^63 := by omega
  have c1 : (bn_shl 1 (d - 1) < m - bn_shl (bn_shr m d) d) ↔ 2^D < 2 * (bn_u m % 2^D) := by
    rw [bn_lt b4 b3, k3, k4]; omega
  have c2 : (m - bn_shl (bn_shr m d) d = bn_shl 1 (d - 1)) ↔ 2 * (bn_u m % 2^D) = 2^D := by
    rw [bn_u_eq, k3, k4]; omega
  unfold bn_rne
  by_cases q1 : 2^D < 2 * (bn_u m % 2^D)
  · rw [if_pos (c1.mpr q1), if_neg (by decide), k6, if_pos (Or.inl q1)]
  · rw [if_neg (fun w => q1 (c1.mp w))]
    by_cases q2 : 2 * (bn_u m % 2^D) = 2^D
    · rw [if_pos (c2.mpr q2)]
      by_cases q3 : bn_u m / 2^D % 2 = 0
      · rw [if_pos (k5.mpr q3), if_pos trivial, k1, if_neg (by omega), Nat.add_zero]
      · rw [if_neg (fun w => q3 (k5.mp w)), if_neg (by decide), k6, if_pos (by omega)]
    · rw [if_neg (fun w => q2 (c2.mp w)), if_pos trivial, k1, if_neg (by omega), Nat.add_zero]
end
section
def bn_P (k : Nat) : Nat := if k = 0 then 24 else 53
def bn_mn (k : Nat) : Int := if k = 0 then -149 else -1074
def bn_E (k : Nat) : Nat := if k = 0 then 255 else 2047
def bn_INF (k : Nat) : Nat := bn_E k * 2^(bn_P k - 1)
theorem bn_places (k : Nat) : (fm_places k).toInt = bn_P k := by unfold fm_places bn_P; split <;> rfl
theorem bn_least (k : Nat) : (fm_leastScale k).toInt = bn_mn k := by unfold fm_leastScale bn_mn; split <;> rfl
theorem bn_great (k : Nat) : (fm_greatestExponent k).toInt = bn_E k := by unfold fm_greatestExponent bn_E; split <;> rfl
theorem bn_inf (k : Nat) : fm_infinite k = Int64.ofNat (bn_INF k) := by unfold fm_infinite bn_INF bn_E bn_P; split <;> rfl
theorem bn_i_max (a b : Int32) : (fMath_max a b).toInt = max a.toInt b.toInt := by
  unfold fMath_max
  split
  · next h => rw [Int32.lt_iff_toInt_lt] at h; omega
  · next h => rw [Int32.lt_iff_toInt_lt] at h; omega
theorem bn_i_min (a b : Int32) : (fMath_min a b).toInt = min a.toInt b.toInt := by
  unfold fMath_min
  split
  · next h => rw [Int32.lt_iff_toInt_lt] at h; omega
  · next h => rw [Int32.lt_iff_toInt_lt] at h; omega
theorem bn_rne_le {m d : Nat} : bn_rne m d ≤ m / 2^d + 1 := by unfold bn_rne; split <;> omega
theorem bn_rne_ge {m d : Nat} : m / 2^d ≤ bn_rne m d := by unfold bn_rne; split <;> omega
def bn_kept (P : Nat) (mn : Int) (m : Nat) (e : Int) : Nat := if bn_ns P mn m e ≤ e then m * 2^(e - bn_ns P mn m e).toNat else bn_rne m (bn_ns P mn m e - e).toNat
theorem bn_kept_le {P : Nat} {mn : Int} {m : Nat} {e : Int} (hm : 0 < m) (hP : 0 < P) : bn_kept P mn m e ≤ 2^P := by
  have hL := bn_len_lt m
  have hL0 := bn_len_pos hm
  unfold bn_kept
  have hns : e + bn_len m - P ≤ bn_ns P mn m e := by unfold bn_ns; omega
  split
  · next h =>
    have : m * 2^(e - bn_ns P mn m e).toNat < 2^(bn_len m) * 2^(e - bn_ns P mn m e).toNat := Nat.mul_lt_mul_of_pos_right hL (Nat.two_pow_pos _)
    rw [← Nat.pow_add] at this
    exact Nat.le_of_lt (Nat.lt_of_lt_of_le this (Nat.pow_le_pow_right (by decide) (by omega)))
  · next h =>
    refine Nat.le_trans bn_rne_le ?_
    have : m / 2^(bn_ns P mn m e - e).toNat < 2^P := by
      rw [Nat.div_lt_iff_lt_mul (Nat.two_pow_pos _), ← Nat.pow_add]
      exact Nat.lt_of_lt_of_le hL (Nat.pow_le_pow_right (by decide) (by omega))
    exact this
theorem bn_kept_ge {P : Nat} {mn : Int} {m : Nat} {e : Int} (hm : 0 < m) (hP : 0 < P) (hs : mn < bn_ns P mn m e) : 2^(P-1) ≤ bn_kept P mn m e := by
  have hL := bn_len_ge hm
  have hL0 := bn_len_pos hm
  have hns : e + bn_len m - P = bn_ns P mn m e := by unfold bn_ns at hs ⊢; omega
  unfold bn_kept
  split
  · next h =>
    have : 2^(bn_len m - 1) * 2^(e - bn_ns P mn m e).toNat ≤ m * 2^(e - bn_ns P mn m e).toNat := Nat.mul_le_mul_right _ hL
    rw [← Nat.pow_add] at this
    exact Nat.le_trans (Nat.pow_le_pow_right (by decide) (by omega)) this
  · next h =>
    refine Nat.le_trans ?_ bn_rne_ge
    rw [Nat.le_div_iff_mul_le (Nat.two_pow_pos _), ← Nat.pow_add]
    exact Nat.le_trans (Nat.pow_le_pow_right (by decide) (by omega)) hL
theorem bn_rounded (k : Nat) (neg : Int32) (m : Int64) (e : Int32) (hm : m ≠ 0) (he : -4000 ≤ e.toInt ∧ e.toInt ≤ 4000)
    (hc : bn_u m < 2^63 ∨ bn_ns (bn_P k) (bn_mn k) (bn_u m) e.toInt - e.toInt ≤ 63) :
    fFormat_rounded k neg m e = fFormat_signed k neg (Int64.ofNat (min (bn_rn (bn_P k) (bn_mn k) (bn_u m) e.toInt) (bn_INF k))) := by
  have hm0 : 0 < bn_u m := by
    rcases Nat.eq_zero_or_pos (bn_u m) with q | q
    · exact absurd (bn_u_zero.mpr q) hm
    · exact q
  have hL : bn_len (bn_u m) ≤ 64 := bn_len_le.mpr (bn_u_lt m)
  have hL0 := bn_len_pos hm0
  have hPk : bn_P k = 24 ∨ bn_P k = 53 := by unfold bn_P; split <;> simp
  have hmk : -1074 ≤ bn_mn k ∧ bn_mn k ≤ -149 := by unfold bn_mn; split <;> omega
  have hEk : 255 ≤ bn_E k ∧ bn_E k ≤ 2047 := by unfold bn_E; split <;> omega
  have hlen : (fWhole_length m).toInt = bn_len (bn_u m) := by rw [bn_length, bn_i_ofNat (by omega)]
  unfold fFormat_rounded
  rw [if_neg hm]
  unfold fFormat_rounded_19 fFormat_rounded_38 fFormat_rounded_47
  have hpl := bn_places k
  have hle := bn_least k
  have hgr := bn_great k
  have s1 : (e + fWhole_length m - fm_places k).toInt = e.toInt + bn_len (bn_u m) - bn_P k := by
    have s0 : (e + fWhole_length m).toInt = e.toInt + bn_len (bn_u m) := by rw [bn_i_add] <;> omega
    rw [bn_i_sub] <;> omega
  have s2 : (fMath_max (e + fWhole_length m - fm_places k) (fm_leastScale k)).toInt = bn_ns (bn_P k) (bn_mn k) (bn_u m) e.toInt := by
    rw [bn_i_max, s1, hle]; rfl
  generalize fMath_max (e + fWhole_length m - fm_places k) (fm_leastScale k) = ns at s2 ⊢
  have hb : bn_mn k ≤ bn_ns (bn_P k) (bn_mn k) (bn_u m) e.toInt ∧ bn_ns (bn_P k) (bn_mn k) (bn_u m) e.toInt ≤ 4064 := by unfold bn_ns; omega
  have hkl := bn_kept_le (P := bn_P k) (mn := bn_mn k) (e := e.toInt) hm0 (by omega)
  have hkg := bn_kept_ge (P := bn_P k) (mn := bn_mn k) (e := e.toInt) hm0 (by omega)
  have hrn : bn_rn (bn_P k) (bn_mn k) (bn_u m) e.toInt = (bn_ns (bn_P k) (bn_mn k) (bn_u m) e.toInt - bn_mn k).toNat * 2^(bn_P k - 1) + bn_kept (bn_P k) (bn_mn k) (bn_u m) e.toInt := rfl
  have hkd : bn_kept (bn_P k) (bn_mn k) (bn_u m) e.toInt = if bn_ns (bn_P k) (bn_mn k) (bn_u m) e.toInt ≤ e.toInt then bn_u m * 2^(e.toInt - bn_ns (bn_P k) (bn_mn k) (bn_u m) e.toInt).toNat else bn_rne (bn_u m) (bn_ns (bn_P k) (bn_mn k) (bn_u m) e.toInt - e.toInt).toNat := rfl
  rw [hrn]
  have hP2 : 2^bn_P k = 2 * 2^(bn_P k - 1) := by rw [← Nat.pow_succ']; congr 1; omega
  generalize hKK : bn_kept (bn_P k) (bn_mn k) (bn_u m) e.toInt = KK at *
  generalize hNN : bn_ns (bn_P k) (bn_mn k) (bn_u m) e.toInt = NN at *
  have s3 : (ns - fm_leastScale k).toInt = NN - bn_mn k := by rw [bn_i_sub] <;> omega
  have z1 : (1 : Int32).toInt = 1 := rfl
  have z0 : (0 : Int32).toInt = 0 := rfl
  have s4 : (fm_greatestExponent k - 1).toInt = bn_E k - 1 := by rw [bn_i_sub] <;> omega
  have hI : bn_INF k = bn_E k * 2^(bn_P k - 1) := rfl
  by_cases hst : ns - fm_leastScale k < fm_greatestExponent k - 1
  · rw [if_pos hst]
    rw [Int32.lt_iff_toInt_lt, s3, s4] at hst
    have hq : (NN - bn_mn k).toNat + 2 ≤ bn_E k := by omega
    have hmul := Nat.mul_le_mul_right (2^(bn_P k - 1)) hq
    rw [Nat.add_mul] at hmul
    rw [Nat.min_eq_left (by rw [hI]; omega)]
    unfold fFormat_rounded_75 fFormat_rounded_94 fFormat_rounded_96
    have s5 : (ns - e).toInt = NN - e.toInt := by rw [bn_i_sub] <;> omega
    have hEP : bn_E k * 2^(bn_P k - 1) < 2^63 := by unfold bn_E bn_P; split <;> decide
    have sum : ∀ kk : Int64, bn_u kk = KK → bn_shl (ns - fm_leastScale k).toInt64 (fm_places k - 1) + kk = Int64.ofNat ((NN - bn_mn k).toNat * 2^(bn_P k - 1) + KK) := by
      intro kk hkk
      apply bn_u_inj
      rw [bn_u_ofNat (by omega), bn_u_add, hkk, bn_u_shl]
      have e1 : ((fm_places k - 1).toInt % 64).toNat = bn_P k - 1 := by rw [bn_i_sub] <;> omega
      have e2 : bn_u (ns - fm_leastScale k).toInt64 = (NN - bn_mn k).toNat := by
        have := bn_u_i2l (ns - fm_leastScale k)
        rw [s3] at this; omega
      rw [e1, e2, Nat.mod_eq_of_lt (a := (NN - bn_mn k).toNat * 2^(bn_P k - 1)) (by omega), Nat.mod_eq_of_lt (by omega)]
    by_cases hd : (0 : Int32) ≤ ns - e
    · rw [if_pos hd]
      rw [Int32.le_iff_toInt_le, s5, z0] at hd
      rw [sum]
      rw [hkd]
      by_cases hd0 : NN ≤ e.toInt
      · rw [if_pos hd0, bn_nearest_low _ _ (by omega), show (e.toInt - NN).toNat = 0 by omega, Nat.pow_zero, Nat.mul_one]
      · rw [if_neg hd0]
        by_cases h63 : NN - e.toInt ≤ 63
        · exact bn_nearest _ _ _ (by omega) (by omega) (by omega)
        · rw [bn_nearest_high _ _ (by omega)]
          have hu : bn_u m < 2^63 := by rcases hc with q | q; exact q; exact absurd q h63
          have hp : 2^64 ≤ 2^(NN - e.toInt).toNat := Nat.pow_le_pow_right (by decide) (by omega)
          show 0 = _
          unfold bn_rne
          rw [Nat.div_eq_of_lt (by omega), Nat.mod_eq_of_lt (by omega), if_neg (by omega)]
    · rw [if_neg hd]
      rw [Int32.le_iff_toInt_le, s5, z0] at hd
      rw [sum]
      rw [hkd, if_pos (by omega), bn_u_shl]
      have e3 : ((-(ns - e)).toInt % 64).toNat = (e.toInt - NN).toNat := by
        rw [bn_i_neg (by omega), s5]
        have : e.toInt - NN ≤ 52 := by
          rw [← hNN]; unfold bn_ns; omega
        omega
      rw [e3]
      apply Nat.mod_eq_of_lt
      rw [hkd, if_pos (by omega)] at hkl
      rcases hPk with q | q <;> rw [q] at hkl <;> omega
  · rw [if_neg hst]
    rw [Int32.lt_iff_toInt_lt, s3, s4] at hst
    have hkg' := hkg (by omega)
    have hq : bn_E k ≤ (NN - bn_mn k).toNat + 1 := by omega
    have hmul := Nat.mul_le_mul_right (2^(bn_P k - 1)) hq
    rw [Nat.add_mul] at hmul
    rw [Nat.min_eq_right (by rw [hI]; omega), bn_inf]

def bn_W (k : Nat) : Nat := if k = 0 then 32 else 64
def bn_mag (k : Nat) (x : Int64) : Nat := bn_u x % 2^(bn_W k - 1)
def bn_sg (k : Nat) (x : Int64) : Nat := bn_u x / 2^(bn_W k - 1)
def bn_ok (k : Nat) (x : Int64) : Prop := bn_u x < 2^bn_W k
theorem bn_signBit (k : Nat) : bn_u (fm_signBit k) = 2^(bn_W k - 1) := by unfold fm_signBit bn_W; split <;> rfl
theorem bn_leading (k : Nat) : bn_u (fm_leadingBit k) = 2^(bn_P k - 1) := by unfold fm_leadingBit bn_P; split <;> rfl
theorem bn_and_mask (x n : Nat) : x &&& (2^n - 1) = x % 2^n := Nat.and_two_pow_sub_one_eq_mod x n
theorem bn_mag_and (k : Nat) (x : Int64) (h : bn_ok k x) : bn_u (x &&& (fm_signBit k ^^^ (-1))) = bn_mag k x := by
  rw [bn_u_and]
  unfold bn_ok bn_W at h
  unfold bn_mag bn_W fm_signBit
  split at h
  · next hk =>
    subst hk
    rw [if_pos rfl, if_pos rfl]
    have e : bn_u (2147483648 ^^^ (-1)) = 18446744071562067967 := by decide
    rw [e]
    apply Nat.eq_of_testBit_eq
    intro i
    rw [Nat.testBit_and, Nat.testBit_mod_two_pow]
    by_cases q : i < 31
    · have : Nat.testBit 18446744071562067967 i = true := by
        revert q; revert i; decide
      rw [this]; simp [q]
    · by_cases q2 : i < 32
      · have : i = 31 := by omega
        subst this
        simp; intro _; decide
      · rw [Nat.testBit_lt_two_pow (x := bn_u x) (Nat.lt_of_lt_of_le h (Nat.pow_le_pow_right (by decide) (by omega)))]
        simp
  · next hk =>
    rw [if_neg hk, if_neg hk]
    have e : bn_u (-9223372036854775808 ^^^ (-1)) = 2^63 - 1 := by decide
    rw [e, bn_and_mask]
theorem bn_magnitude (k : Nat) (x : Int64) (h : bn_ok k x) : bn_u (fFormat_magnitude k x) = bn_mag k x := bn_mag_and k x h
theorem bn_mag_lt (k : Nat) (x : Int64) : bn_mag k x < 2^(bn_W k - 1) := Nat.mod_lt _ (Nat.two_pow_pos _)
theorem bn_W_le (k : Nat) : bn_W k - 1 ≤ 63 := by unfold bn_W; split <;> decide
theorem bn_mag_lt63 (k : Nat) (x : Int64) : bn_mag k x < 2^63 := Nat.lt_of_lt_of_le (bn_mag_lt k x) (Nat.pow_le_pow_right (by decide) (bn_W_le k))
theorem bn_sg_le (k : Nat) (x : Int64) (h : bn_ok k x) : bn_sg k x ≤ 1 := by
  unfold bn_sg; unfold bn_ok at h
  have : 2^bn_W k = 2 * 2^(bn_W k - 1) := by rw [← Nat.pow_succ']; congr 1; unfold bn_W; split <;> rfl
  have := (Nat.div_lt_iff_lt_mul (x := bn_u x) (k := 2^(bn_W k - 1)) (y := 2) (Nat.two_pow_pos _)).mpr (by omega)
  omega
theorem bn_u_split (k : Nat) (x : Int64) : bn_u x = bn_sg k x * 2^(bn_W k - 1) + bn_mag k x := by
  unfold bn_sg bn_mag; rw [Nat.mul_comm]; exact (Nat.div_add_mod _ _).symm
theorem bn_inf_u (k : Nat) : bn_u (fm_infinite k) = bn_INF k := by unfold fm_infinite bn_INF bn_E bn_P; split <;> rfl
theorem bn_INF_lt (k : Nat) : bn_INF k < 2^(bn_W k - 1) := by unfold bn_INF bn_E bn_P bn_W; split <;> decide
theorem bn_isNone (k : Nat) (x : Int64) (h : bn_ok k x) : fFormat_isNone k x = if bn_mag k x ≤ bn_INF k then 0 else 1 := by
  unfold fFormat_isNone
  have h1 := bn_mag_and k x h
  have : (x &&& (fm_signBit k ^^^ (-1)) ≤ fm_infinite k) ↔ bn_mag k x ≤ bn_INF k := by
    rw [bn_le, h1, bn_inf_u]
    · rw [h1]; exact bn_mag_lt63 k x
    · rw [bn_inf_u]; exact Nat.lt_of_lt_of_le (bn_INF_lt k) (Nat.pow_le_pow_right (by decide) (bn_W_le k))
  simp only [this]
theorem bn_isInfinite (k : Nat) (x : Int64) (h : bn_ok k x) : fFormat_isInfinite k x = if bn_mag k x = bn_INF k then 1 else 0 := by
  unfold fFormat_isInfinite
  have h1 := bn_mag_and k x h
  have : (x &&& (fm_signBit k ^^^ (-1)) = fm_infinite k) ↔ bn_mag k x = bn_INF k := by
    rw [bn_u_eq, h1, bn_inf_u]
  simp only [this]
theorem bn_isZero (k : Nat) (x : Int64) (h : bn_ok k x) : fFormat_isZero k x = if bn_mag k x = 0 then 1 else 0 := by
  unfold fFormat_isZero
  have h1 := bn_mag_and k x h
  have : (x &&& (fm_signBit k ^^^ (-1)) = 0) ↔ bn_mag k x = 0 := by
    rw [bn_u_zero, h1]
  simp only [this]
theorem bn_and_pow (x n : Nat) : x &&& 2^n = x / 2^n % 2 * 2^n := by
  apply Nat.eq_of_testBit_eq
  intro i
  rw [Nat.testBit_and, Nat.testBit_two_pow]
  rw [show x / 2^n % 2 = x / 2^n % 2^1 from rfl, Nat.mul_comm, Nat.testBit_two_pow_mul, Nat.testBit_mod_two_pow, Nat.testBit_div_two_pow]
  by_cases q : n = i
  · subst q; simp
  · by_cases q2 : i ≥ n
    · have : ¬ i - n < 1 := by omega
      simp [q, this]
    · simp [q, q2]
theorem bn_isNegative (k : Nat) (x : Int64) (h : bn_ok k x) : fFormat_isNegative k x = if bn_sg k x = 0 then 0 else 1 := by
  unfold fFormat_isNegative
  have h1 := bn_sg_le k x h
  have : (x &&& fm_signBit k = 0) ↔ bn_sg k x = 0 := by
    rw [bn_u_zero, bn_u_and, bn_signBit, bn_and_pow]
    have hp := Nat.two_pow_pos (bn_W k - 1)
    show bn_sg k x % 2 * _ = 0 ↔ _
    rcases Nat.lt_or_ge (bn_sg k x) 1 with q | q
    · have : bn_sg k x = 0 := by omega
      rw [this]; simp
    · have : bn_sg k x = 1 := by omega
      rw [this]; omega
  simp only [this]

def bn_ex (k : Nat) (x : Int64) : Nat := bn_mag k x / 2^(bn_P k - 1)
def bn_M (k : Nat) (x : Int64) : Nat := if bn_ex k x = 0 then bn_mag k x else 2^(bn_P k - 1) + bn_mag k x % 2^(bn_P k - 1)
def bn_S (k : Nat) (x : Int64) : Int := bn_mn k + (max (bn_ex k x) 1 : Nat) - 1
def bn_v (x : Int32) : Nat := x.toBitVec.toNat
theorem bn_v_l2i (x : Int64) : bn_v x.toInt32 = bn_u x % 2^32 := by
  show (x.toBitVec.signExtend 32).toNat = _
  rw [BitVec.signExtend_eq_setWidth_of_le _ (by decide), BitVec.toNat_setWidth]; rfl
theorem bn_v_and (x y : Int32) : bn_v (x &&& y) = bn_v x &&& bn_v y := by simp [bn_v]
theorem bn_v_s (x : Int32) : x.toInt = if bn_v x < 2^31 then (bn_v x : Int) else (bn_v x : Int) - 2^32 := by
  have h := BitVec.toInt_eq_toNat_cond x.toBitVec
  rw [Int32.toInt_toBitVec] at h
  rw [h]; unfold bn_v
  have := x.toBitVec.isLt
  split <;> split <;> omega
theorem bn_ex_lt (k : Nat) (x : Int64) : bn_ex k x ≤ bn_E k := by
  have h := bn_mag_lt k x
  unfold bn_ex
  have : bn_mag k x / 2^(bn_P k - 1) < bn_E k + 1 := by
    rw [Nat.div_lt_iff_lt_mul (Nat.two_pow_pos _)]
    refine Nat.lt_of_lt_of_le h ?_
    unfold bn_W bn_E bn_P; split <;> decide
  omega
theorem bn_exponent (k : Nat) (x : Int64) (h : bn_ok k x) : (fFormat_exponent k x).toInt = bn_ex k x := by
  have z1 : (1 : Int32).toInt = 1 := rfl
  have hpl := bn_places k
  have hPk : bn_P k = 24 ∨ bn_P k = 53 := by unfold bn_P; split <;> simp
  have e1 : ((fm_places k - 1).toInt % 64).toNat = bn_P k - 1 := by rw [bn_i_sub] <;> omega
  have hv : bn_v (fFormat_exponent k x) = bn_ex k x := by
    unfold fFormat_exponent
    rw [bn_v_and, bn_v_l2i, bn_u_shr, e1]
    unfold bn_ok at h
    unfold bn_ex bn_mag bn_P fm_greatestExponent
    unfold bn_W at h ⊢
    split at h
    · next hk =>
      subst hk
      rw [if_pos rfl, if_pos rfl, if_pos rfl]
      show _ &&& (2^8 - 1) = _
      rw [bn_and_mask]; omega
    · next hk =>
      rw [if_neg hk, if_neg hk, if_neg hk]
      show _ &&& (2^11 - 1) = _
      rw [bn_and_mask]; omega
  have := bn_ex_lt k x
  have hEk : bn_E k ≤ 2047 := by unfold bn_E; split <;> omega
  rw [bn_v_s, hv, if_pos (by omega)]
theorem bn_scale (k : Nat) (x : Int64) (h : bn_ok k x) : (fFormat_scale k x).toInt = bn_S k x := by
  have he := bn_exponent k x h
  have hl := bn_least k
  have hb := bn_ex_lt k x
  have hEk : bn_E k ≤ 2047 := by unfold bn_E; split <;> omega
  have hmk : -1074 ≤ bn_mn k ∧ bn_mn k ≤ -149 := by unfold bn_mn; split <;> omega
  have z1 : (1 : Int32).toInt = 1 := rfl
  unfold fFormat_scale bn_S
  have h1 : (fMath_max (fFormat_exponent k x) 1).toInt = (max (bn_ex k x) 1 : Nat) := by rw [bn_i_max, he, z1]; omega
  have h2 : (fm_leastScale k + fMath_max (fFormat_exponent k x) 1).toInt = bn_mn k + (max (bn_ex k x) 1 : Nat) := by rw [bn_i_add] <;> omega
  rw [bn_i_sub] <;> omega
theorem bn_signif (k : Nat) (x : Int64) (h : bn_ok k x) : bn_u (fFormat_significand k x) = bn_M k x := by
  have he := bn_exponent k x h
  have h0 : (fFormat_exponent k x = 0) ↔ bn_ex k x = 0 := by
    rw [← Int32.toInt_inj, he]; show (_ : Int) = 0 ↔ _; omega
  have hf : bn_u (x &&& (fm_leadingBit k - 1)) = bn_mag k x % 2^(bn_P k - 1) := by
    have e : bn_u (fm_leadingBit k - 1) = 2^(bn_P k - 1) - 1 := by unfold fm_leadingBit bn_P; split <;> rfl
    rw [bn_u_and, e, bn_and_mask]
    unfold bn_mag
    rw [Nat.mod_mod_of_dvd]
    apply Nat.pow_dvd_pow
    unfold bn_P bn_W; split <;> decide
  unfold fFormat_significand fFormat_significand_9 bn_M
  simp only [h0]
  split
  · next q =>
    rw [hf]; unfold bn_ex at q
    exact Nat.mod_eq_of_lt (by rcases Nat.div_eq_zero_iff.mp q with w | w; exact absurd w (Nat.ne_of_gt (Nat.two_pow_pos _)); exact w)
  · next q =>
    rw [bn_u_or, hf, bn_leading]
    have := Nat.two_pow_add_eq_or_of_lt (i := bn_P k - 1) (b := bn_mag k x % 2^(bn_P k - 1)) (Nat.mod_lt _ (Nat.two_pow_pos _)) 1
    rw [Nat.mul_one] at this
    exact this.symm
theorem bn_M_lt (k : Nat) (x : Int64) : bn_M k x < 2^bn_P k := by
  have hPk : bn_P k = 24 ∨ bn_P k = 53 := by unfold bn_P; split <;> simp
  have hP2 : 2^bn_P k = 2 * 2^(bn_P k - 1) := by rw [← Nat.pow_succ']; congr 1; omega
  have hm := Nat.mod_lt (bn_mag k x) (Nat.two_pow_pos (bn_P k - 1))
  unfold bn_M
  split
  · next q =>
    unfold bn_ex at q
    have : bn_mag k x < 2^(bn_P k - 1) := by rcases Nat.div_eq_zero_iff.mp q with w | w; exact absurd w (Nat.ne_of_gt (Nat.two_pow_pos _)); exact w
    omega
  · omega
theorem bn_M_pos (k : Nat) (x : Int64) (h : bn_mag k x ≠ 0) : 0 < bn_M k x := by
  unfold bn_M
  have := Nat.two_pow_pos (bn_P k - 1)
  split <;> omega
theorem bn_M_ge (k : Nat) (x : Int64) (h : bn_mn k < bn_S k x) : 2^(bn_P k - 1) ≤ bn_M k x := by
  unfold bn_S at h
  unfold bn_M
  rw [if_neg (by omega)]; omega
theorem bn_S_ge (k : Nat) (x : Int64) : bn_mn k ≤ bn_S k x := by unfold bn_S; omega
theorem bn_S_le (k : Nat) (x : Int64) : bn_S k x ≤ bn_mn k + 2046 := by
  have := bn_ex_lt k x
  have hEk : bn_E k ≤ 2047 := by unfold bn_E; split <;> omega
  unfold bn_S; omega
end
section
theorem bn_or_one (x : Nat) : x ||| 1 = x / 2 * 2 + 1 := by
  have h := Nat.two_pow_add_eq_or_of_lt (i := 1) (b := 1) (by decide) (x / 2)
  have h2 : x ||| 1 = 2 ^ 1 * (x / 2) ||| 1 := by
    apply Nat.eq_of_testBit_eq
    intro i
    rw [Nat.testBit_or, Nat.testBit_or, Nat.testBit_two_pow_mul]
    cases i with
    | zero => simp
    | succ n =>
      have : Nat.testBit 1 (n+1) = false := by rw [Nat.testBit_succ]; simp
      rw [this, Nat.testBit_succ]; simp
  rw [h2, ← h]; omega
theorem bn_shl_u {x : Int64} {y : Int32} {k : Nat} (hy : y.toInt = k) (hk : k < 64) (h : bn_u x * 2^k < 2^64) : bn_u (bn_shl x y) = bn_u x * 2^k := by
  rw [bn_u_shl, show (y.toInt % 64).toNat = k by omega, Nat.mod_eq_of_lt h]
theorem bn_shr_u {x : Int64} {y : Int32} {k : Nat} (hy : y.toInt = k) (hk : k < 64) : bn_u (bn_shr x y) = bn_u x / 2^k := by
  rw [bn_u_shr, show (y.toInt % 64).toNat = k by omega]
theorem bn_add_u {x y : Int64} (h : bn_u x + bn_u y < 2^64) : bn_u (x + y) = bn_u x + bn_u y := by
  rw [bn_u_add, Nat.mod_eq_of_lt h]
theorem bn_mul_u {x y : Int64} (h : bn_u x * bn_u y < 2^64) : bn_u (x * y) = bn_u x * bn_u y := by
  rw [bn_u_mul, Nat.mod_eq_of_lt h]
theorem bn_sub_u {x y : Int64} (h : bn_u y ≤ bn_u x) : bn_u (x - y) = bn_u x - bn_u y := by
  have := bn_u_lt x
  rw [bn_u_sub]; omega
theorem bn_mul_lt {a b A B : Nat} (ha : a < A) (hb : b < B) : a * b < A * B := Nat.mul_lt_mul_of_lt_of_lt ha hb
theorem bn_highProduct (x y : Int64) (hx : bn_u x < 2^62) (hy : bn_u y < 2^62) : bn_u (fFloating_highProduct x y) = bn_u x * bn_u y / 2^64 := by
  simp only [fFloating_highProduct, fFloating_highProduct_7, fFloating_highProduct_14, fFloating_highProduct_20, fFloating_highProduct_26, fFloating_highProduct_42, fFloating_highProduct_56]
  have m32 : bn_u 4294967295 = 2^32 - 1 := rfl
  have z : (32 : Int32).toInt = (32 : Nat) := rfl
  have xl : bn_u (x &&& 4294967295) = bn_u x % 2^32 := by rw [bn_u_and, m32, bn_and_mask]
  have yl : bn_u (y &&& 4294967295) = bn_u y % 2^32 := by rw [bn_u_and, m32, bn_and_mask]
  have xh : bn_u (bn_shr x 32) = bn_u x / 2^32 := bn_shr_u z (by decide)
  have yh : bn_u (bn_shr y 32) = bn_u y / 2^32 := bn_shr_u z (by decide)
  have hxl : bn_u x % 2^32 < 2^32 := Nat.mod_lt _ (by decide)
  have hyl : bn_u y % 2^32 < 2^32 := Nat.mod_lt _ (by decide)
  have hxh : bn_u x / 2^32 < 2^30 := by omega
  have hyh : bn_u y / 2^32 < 2^30 := by omega
  have hX := Nat.div_add_mod (bn_u x) (2^32)
  have hY := Nat.div_add_mod (bn_u y) (2^32)
  generalize bn_u x / 2^32 = XH at *
  generalize bn_u x % 2^32 = XL at *
  generalize bn_u y / 2^32 = YH at *
  generalize bn_u y % 2^32 = YL at *
  have b1 := bn_mul_lt hxh hyh
  have b2 := bn_mul_lt hxh hyl
  have b3 := bn_mul_lt hxl hyh
  have b4 := bn_mul_lt hxl hyl
  have e : bn_u x * bn_u y = XH * YH * 2^64 + (XH * YL + XL * YH) * 2^32 + XL * YL := by
    rw [← hX, ← hY]
    simp only [Nat.add_mul, Nat.mul_add]
    have e1 : 2^32 * XH * (2^32 * YH) = XH * YH * 2^64 := by
      rw [Nat.mul_mul_mul_comm, Nat.mul_comm]
    have e2 : 2^32 * XH * YL = XH * YL * 2^32 := by rw [Nat.mul_assoc, Nat.mul_comm]
    have e3 : XL * (2^32 * YH) = XL * YH * 2^32 := by rw [Nat.mul_left_comm, Nat.mul_comm]
    omega
  have p1 : bn_u (bn_shr x 32 * bn_shr y 32) = XH * YH := by rw [bn_mul_u] <;> rw [xh, yh]; omega
  have p2 : bn_u (bn_shr x 32 * (y &&& 4294967295)) = XH * YL := by rw [bn_mul_u] <;> rw [xh, yl]; omega
  have p3 : bn_u ((x &&& 4294967295) * bn_shr y 32) = XL * YH := by rw [bn_mul_u] <;> rw [xl, yh]; omega
  have p4 : bn_u ((x &&& 4294967295) * (y &&& 4294967295)) = XL * YL := by rw [bn_mul_u] <;> rw [xl, yl]; omega
  generalize XH * YH = A at *
  generalize XH * YL = B at *
  generalize XL * YH = C at *
  generalize XL * YL = D at *
  have q1 : bn_u (bn_shr ((x &&& 4294967295) * (y &&& 4294967295)) 32) = D / 2^32 := by rw [bn_shr_u z (by decide), p4]
  have q2 : bn_u (bn_shr x 32 * (y &&& 4294967295) + bn_shr ((x &&& 4294967295) * (y &&& 4294967295)) 32) = B + D / 2^32 := by
    rw [bn_add_u] <;> rw [p2, q1]; omega
  generalize bn_shr x 32 * (y &&& 4294967295) + bn_shr ((x &&& 4294967295) * (y &&& 4294967295)) 32 = mid at *
  have q3 : bn_u (mid &&& 4294967295) = (B + D / 2^32) % 2^32 := by rw [bn_u_and, m32, bn_and_mask, q2]
  have q4 : bn_u ((x &&& 4294967295) * bn_shr y 32 + (mid &&& 4294967295)) = C + (B + D / 2^32) % 2^32 := by
    rw [bn_add_u] <;> rw [p3, q3]; omega
  generalize (x &&& 4294967295) * bn_shr y 32 + (mid &&& 4294967295) = oth at *
  have q5 : bn_u (bn_shr mid 32) = (B + D / 2^32) / 2^32 := by rw [bn_shr_u z (by decide), q2]
  have q6 : bn_u (bn_shr oth 32) = (C + (B + D / 2^32) % 2^32) / 2^32 := by rw [bn_shr_u z (by decide), q4]
  have q7 : bn_u (bn_shr x 32 * bn_shr y 32 + bn_shr mid 32) = A + (B + D / 2^32) / 2^32 := by rw [bn_add_u] <;> rw [p1, q5]; omega
  rw [bn_add_u] <;> rw [q7, q6]
  · rw [e]; omega
  · omega
theorem bn_lift {m : Int64} (h : bn_u m < 2^62) : (fFloating_lift m).toInt = 62 - bn_len (bn_u m) := by
  have : bn_len (bn_u m) ≤ 62 := bn_len_le.mpr h
  have z : (62 : Int32).toInt = 62 := rfl
  unfold fFloating_lift
  rw [bn_i_sub] <;> rw [bn_length, bn_i_ofNat (by omega), z]; omega
theorem bn_lifted {m : Int64} (h : bn_u m < 2^62) (h0 : 0 < bn_u m) : bn_u (bn_shl m (fFloating_lift m)) = bn_u m * 2^(62 - bn_len (bn_u m)) ∧ 2^61 ≤ bn_u m * 2^(62 - bn_len (bn_u m)) ∧ bn_u m * 2^(62 - bn_len (bn_u m)) < 2^62 := by
  have hl : bn_len (bn_u m) ≤ 62 := bn_len_le.mpr h
  have hl0 := bn_len_pos h0
  have e := bn_len_mul h0 (62 - bn_len (bn_u m))
  have h2 : bn_u m * 2^(62 - bn_len (bn_u m)) < 2^62 := bn_len_le.mp (by omega)
  refine ⟨bn_shl_u (by rw [bn_lift h]; omega) (by omega) (by omega), bn_lt_len.mp (by omega), h2⟩
theorem bn_tr64 (N : Nat) : bn_tr 64 N = if N % 2^64 = 0 then N / 2^64 else (N / 2^64) ||| 1 := by
  unfold bn_tr; rw [bn_or_one]
theorem bn_P_le (k : Nat) : 24 ≤ bn_P k ∧ bn_P k ≤ 53 := by unfold bn_P; split <;> omega
theorem bn_M_lt53 (k : Nat) (x : Int64) : bn_M k x < 2^53 := Nat.lt_of_lt_of_le (bn_M_lt k x) (Nat.pow_le_pow_right (by decide) (bn_P_le k).2)
theorem bn_mn_le (k : Nat) : -1074 ≤ bn_mn k ∧ bn_mn k ≤ -149 := by unfold bn_mn; split <;> omega
def bn_out (k : Nat) (neg : Int32) (m : Nat) (e : Int) : Int64 := fFormat_signed k neg (Int64.ofNat (min (bn_rn (bn_P k) (bn_mn k) m e) (bn_INF k)))
set_option maxHeartbeats 4000000 in
theorem bn_product_fin (k : Nat) (x y : Int64) (hx : bn_ok k x) (hy : bn_ok k y) (neg : Int32) (x0 : bn_mag k x ≠ 0) (y0 : bn_mag k y ≠ 0) :
    fFloating_product_105 k x y neg (fFloating_lift (fFormat_significand k x)) = bn_out k neg (bn_M k x * bn_M k y) (bn_S k x + bn_S k y) := by
  simp only [fFloating_product_105, fFloating_product_115, fFloating_product_125, fFloating_product_135, fFloating_product_144, fFloating_product_166, fFloating_product_188]
  have mx := bn_signif k x hx
  have my := bn_signif k y hy
  have sx := bn_scale k x hx
  have sy := bn_scale k y hy
  have mx0 := bn_M_pos k x x0
  have my0 := bn_M_pos k y y0
  have mxl := bn_M_lt53 k x
  have myl := bn_M_lt53 k y
  have sx1 := bn_S_ge k x
  have sx2 := bn_S_le k x
  have sy1 := bn_S_ge k y
  have sy2 := bn_S_le k y
  have hmn := bn_mn_le k
  have hP := bn_P_le k
  generalize fFormat_significand k x = sigx at *
  generalize fFormat_significand k y = sigy at *
  generalize fFormat_scale k x = scx at *
  generalize fFormat_scale k y = scy at *
  have lx := bn_lift (m := sigx) (by omega)
  have ly := bn_lift (m := sigy) (by omega)
  obtain ⟨rx, rx1, rx2⟩ := bn_lifted (m := sigx) (by omega) (by omega)
  obtain ⟨ry, ry1, ry2⟩ := bn_lifted (m := sigy) (by omega) (by omega)
  rw [mx] at lx rx rx1 rx2
  rw [my] at ly ry ry1 ry2
  have hlx : bn_len (bn_M k x) ≤ 53 := bn_len_le.mpr mxl
  have hly : bn_len (bn_M k y) ≤ 53 := bn_len_le.mpr myl
  have hlx0 := bn_len_pos mx0
  have hly0 := bn_len_pos my0
  generalize fFloating_lift sigx = liftx at *
  generalize fFloating_lift sigy = lifty at *
  have hh := bn_highProduct (bn_shl sigx liftx) (bn_shl sigy lifty) (by omega) (by omega)
  have hlow : (bn_shl sigx liftx * bn_shl sigy lifty = 0) ↔ (bn_M k x * 2^(62 - bn_len (bn_M k x)) * (bn_M k y * 2^(62 - bn_len (bn_M k y)))) % 2^64 = 0 := by
    rw [bn_u_zero, bn_u_mul, rx, ry]
  rw [rx, ry] at hh
  have N1 : 2^61 * 2^61 ≤ bn_M k x * 2^(62 - bn_len (bn_M k x)) * (bn_M k y * 2^(62 - bn_len (bn_M k y))) := Nat.mul_le_mul rx1 ry1
  have N2 : bn_M k x * 2^(62 - bn_len (bn_M k x)) * (bn_M k y * 2^(62 - bn_len (bn_M k y))) < 2^62 * 2^62 := bn_mul_lt rx2 ry2
  have NE : bn_M k x * 2^(62 - bn_len (bn_M k x)) * (bn_M k y * 2^(62 - bn_len (bn_M k y))) = bn_M k x * bn_M k y * 2^((62 - bn_len (bn_M k x)) + (62 - bn_len (bn_M k y))) := by
    rw [Nat.mul_mul_mul_comm, ← Nat.pow_add]
  generalize hN : bn_M k x * 2^(62 - bn_len (bn_M k x)) * (bn_M k y * 2^(62 - bn_len (bn_M k y))) = N at *
  have hfold : (if bn_shl sigx liftx * bn_shl sigy lifty = 0 then fFormat_rounded k neg (fFloating_highProduct (bn_shl sigx liftx) (bn_shl sigy lifty)) (scx - liftx + scy - lifty + 64)
      else fFormat_rounded k neg (fFloating_highProduct (bn_shl sigx liftx) (bn_shl sigy lifty) ||| 1) (scx - liftx + scy - lifty + 64))
      = fFormat_rounded k neg (if bn_shl sigx liftx * bn_shl sigy lifty = 0 then fFloating_highProduct (bn_shl sigx liftx) (bn_shl sigy lifty) else fFloating_highProduct (bn_shl sigx liftx) (bn_shl sigy lifty) ||| 1) (scx - liftx + scy - lifty + 64) := by
    split <;> rfl
  rw [hfold]
  have hmu : bn_u (if bn_shl sigx liftx * bn_shl sigy lifty = 0 then fFloating_highProduct (bn_shl sigx liftx) (bn_shl sigy lifty) else fFloating_highProduct (bn_shl sigx liftx) (bn_shl sigy lifty) ||| 1) = bn_tr 64 N := by
    rw [bn_tr64]
    simp only [hlow]
    split
    · exact hh
    · rw [bn_u_or, hh]; rfl
  generalize (if bn_shl sigx liftx * bn_shl sigy lifty = 0 then fFloating_highProduct (bn_shl sigx liftx) (bn_shl sigy lifty) else fFloating_highProduct (bn_shl sigx liftx) (bn_shl sigy lifty) ||| 1) = mm at *
  have z64 : (64 : Int32).toInt = 64 := rfl
  have e1 : (scx - liftx).toInt = bn_S k x - (62 - bn_len (bn_M k x)) := by rw [bn_i_sub] <;> omega
  have e2 : (scx - liftx + scy).toInt = bn_S k x - (62 - bn_len (bn_M k x)) + bn_S k y := by rw [bn_i_add] <;> omega
  have e3 : (scx - liftx + scy - lifty).toInt = bn_S k x - (62 - bn_len (bn_M k x)) + bn_S k y - (62 - bn_len (bn_M k y)) := by rw [bn_i_sub] <;> omega
  have e4 : (scx - liftx + scy - lifty + 64).toInt = bn_S k x - (62 - bn_len (bn_M k x)) + bn_S k y - (62 - bn_len (bn_M k y)) + 64 := by rw [bn_i_add] <;> omega
  have tlen : bn_len N ≤ 124 := bn_len_le.mpr (by omega)
  have tlen2 : 122 < bn_len N := bn_lt_len.mpr (by omega)
  have tl := bn_tr_len (k := 64) (m := N) (by omega)
  have t2 : bn_tr 64 N < 2^63 := bn_len_le.mp (by omega)
  have t0 : 0 < bn_tr 64 N := by
    rcases Nat.eq_zero_or_pos (bn_tr 64 N) with q | q
    · rw [q, bn_len_zero] at tl; omega
    · exact q
  have mm0 : mm ≠ 0 := fun q => by rw [bn_u_zero] at q; omega
  rw [bn_rounded k neg mm _ mm0 (by omega) (Or.inl (by omega))]
  unfold bn_out
  congr 3
  rw [hmu, e4]
  have g1 := bn_rn_tr (bn_P k) (bn_mn k) N (bn_S k x - (62 - bn_len (bn_M k x)) + bn_S k y - (62 - bn_len (bn_M k y))) 64 (by omega) (by unfold bn_ns; omega)
  have g2 := bn_rn_mul (bn_P k) (bn_mn k) (bn_M k x * bn_M k y) (bn_S k x - (62 - bn_len (bn_M k x)) + bn_S k y - (62 - bn_len (bn_M k y))) ((62 - bn_len (bn_M k x)) + (62 - bn_len (bn_M k y))) (Nat.mul_pos mx0 my0)
  rw [← NE] at g2
  have : (bn_S k x - (62 - bn_len (bn_M k x)) + bn_S k y - (62 - bn_len (bn_M k y))) + ((((62 - bn_len (bn_M k x)) + (62 - bn_len (bn_M k y)) : Nat)) : Int) = bn_S k x + bn_S k y := by omega
  rw [this] at g2
  rw [← g2, ← g1]
  rfl
end
section
def bn_st (N D : Nat) : Nat := if N % D = 0 then N / D else N / D / 2 * 2 + 1
theorem bn_st_half (N D : Nat) : bn_st N D / 2 = N / D / 2 := by unfold bn_st; split <;> omega
theorem bn_st_mul (N D c : Nat) (hc : 0 < c) : bn_st (N * c) (D * c) = bn_st N D := by
  unfold bn_st
  have h : (N * c % (D * c) = 0) ↔ N % D = 0 := by
    rw [Nat.mul_mod_mul_right]
    constructor
    · intro q
      rcases Nat.mul_eq_zero.mp q with w | w
      · exact w
      · omega
    · intro q; rw [q, Nat.zero_mul]
  simp only [h, Nat.mul_div_mul_right _ _ hc]
theorem bn_st_tr (N D k : Nat) (hD : 0 < D) : bn_tr k (bn_st (N * 2^k) D) = bn_st N D := by
  have hp := Nat.two_pow_pos k
  have hQ : N * 2^k / D / 2^k = N / D := by
    rw [Nat.div_div_eq_div_mul, Nat.mul_div_mul_right _ _ hp]
  by_cases h : N % D = 0
  · have hN : N = D * (N / D) := by have := Nat.div_add_mod N D; omega
    have h1 : N * 2^k % D = 0 := by rw [hN, Nat.mul_assoc, Nat.mul_mod_right]
    have h2 : N * 2^k / D = N / D * 2^k := by
      conv => lhs; rw [hN, Nat.mul_assoc]
      exact Nat.mul_div_cancel_left _ hD
    unfold bn_st
    rw [if_pos h1, if_pos h, h2]
    unfold bn_tr
    rw [if_pos (Nat.mul_mod_left _ _), Nat.mul_div_cancel _ hp]
  · rcases Nat.eq_zero_or_pos k with q | q
    · subst q; rw [Nat.pow_zero, Nat.mul_one, bn_tr_zero]
    · have e2 : 2^k = 2 * 2^(k-1) := by rw [← Nat.pow_succ']; congr 1; omega
      have hT : bn_st (N * 2^k) D / 2^k = N / D := by
        rw [← hQ, e2, ← Nat.div_div_eq_div_mul, ← Nat.div_div_eq_div_mul, bn_st_half]
      have hne : bn_st (N * 2^k) D % 2^k ≠ 0 := by
        intro w
        have hd := Nat.div_add_mod (bn_st (N * 2^k) D) (2^k)
        rw [w, hT] at hd
        by_cases g : N * 2^k % D = 0
        · have hh : bn_st (N * 2^k) D = N * 2^k / D := by unfold bn_st; rw [if_pos g]
          rw [hh] at hd
          have g2 := Nat.div_add_mod (N * 2^k) D
          rw [g, ← hd] at g2
          have : D * (N / D) = N := by
            have : (D * (N / D)) * 2^k = N * 2^k := by rw [← g2, Nat.add_zero, Nat.add_zero, Nat.mul_comm (2^k), Nat.mul_assoc]
            exact Nat.eq_of_mul_eq_mul_right hp this
          have := Nat.div_add_mod N D
          omega
        · have hh : bn_st (N * 2^k) D = N * 2^k / D / 2 * 2 + 1 := by unfold bn_st; rw [if_neg g]
          have hd' : 2 * (2^(k-1) * (N / D)) = bn_st (N * 2^k) D := by rw [← Nat.mul_assoc, ← e2]; exact hd
          omega
      rw [bn_tr, if_neg hne, hT, bn_st, if_neg h]
def bn_qs (D : Nat) : Nat → Nat × Nat → Nat × Nat
  | 0, s => s
  | n + 1, s => bn_qs D n (if s.1 < D then (2 * s.1, 2 * s.2) else (2 * (s.1 - D), 2 * s.2 + 1))
theorem bn_qs_inv (D : Nat) : ∀ (n r q : Nat), r < 2 * D → (bn_qs D n (r, q)).1 < 2 * D ∧ (q * (2 * D) + r) * 2^n = (bn_qs D n (r, q)).2 * (2 * D) + (bn_qs D n (r, q)).1 := by
  intro n
  induction n with
  | zero => intro r q h; exact ⟨h, by simp [bn_qs]⟩
  | succ n ih =>
    intro r q h
    have e : ∀ a : Nat, a * 2^(n+1) = (2 * a) * 2^n := fun a => by rw [Nat.pow_succ']; rw [← Nat.mul_assoc, Nat.mul_comm a 2]
    unfold bn_qs
    show _ ∧ (q * (2 * D) + r) * 2^(n+1) = _
    rw [e]
    by_cases g : r < D
    · rw [if_pos g]
      obtain ⟨i1, i2⟩ := ih (2 * r) (2 * q) (by omega)
      refine ⟨i1, ?_⟩
      rw [← i2]; congr 1
      rw [Nat.mul_add, ← Nat.mul_assoc]
    · rw [if_neg g]
      obtain ⟨i1, i2⟩ := ih (2 * (r - D)) (2 * q + 1) (by omega)
      refine ⟨i1, ?_⟩
      rw [← i2]; congr 1
      rw [Nat.mul_add, ← Nat.mul_assoc, Nat.add_mul]; omega
theorem bn_qs_q (D n r q : Nat) (hn : q < 2^(57 - n)) (h : n ≤ 57) : (bn_qs D n (r, q)).2 < 2^57 := by
  induction n generalizing r q with
  | zero => exact hn
  | succ n ih =>
    unfold bn_qs
    have e : 2^(57 - n) = 2 * 2^(57 - (n+1)) := by rw [← Nat.pow_succ']; congr 1; omega
    split
    · exact ih _ _ (by omega) (by omega)
    · exact ih _ _ (by omega) (by omega)
theorem bn_i_count (i : Int32) (k : Nat) (h : i.toInt = k) (hk : k < 100) : (i + 1).toInt = (k + 1 : Nat) := by
  have z : (1 : Int32).toInt = 1 := rfl
  rw [bn_i_add] <;> omega
theorem bn_qloop (k : Nat) (x y : Int64) (neg l1 l2 : Int32) (D : Int64) (hD : bn_u D < 2^62) : ∀ (n : Nat) (r q : Int64) (i : Int32), n ≤ 57 → i.toInt = (57 - n : Nat) → bn_u r < 2 * bn_u D → bn_u q < 2^(57 - n) →
    ∃ r' q' : Int64, bn_u r' = (bn_qs (bn_u D) n (bn_u r, bn_u q)).1 ∧ bn_u q' = (bn_qs (bn_u D) n (bn_u r, bn_u q)).2 ∧
      fFloating_quotient_166 (n + 1) k x y neg l1 l2 r D q i = fFormat_rounded k neg (if r' = 0 then q' else q' ||| 1) (fFormat_scale k x - l1 - (fFormat_scale k y - l2) - 56) := by
  intro n
  induction n with
  | zero =>
    intro r q i _ hi hr hq
    refine ⟨r, q, rfl, rfl, ?_⟩
    have h57 : (57 : Int32) ≤ i := by rw [Int32.le_iff_toInt_le, hi]; decide
    rw [fFloating_quotient_166, if_pos h57]
    simp only [fFloating_quotient_253]
    split <;> rfl
  | succ n ih =>
    intro r q i hn hi hr hq
    have h57 : ¬ (57 : Int32) ≤ i := by rw [Int32.le_iff_toInt_le, hi]; show ¬ (57 : Int) ≤ _; omega
    have hi1 := bn_i_count i _ hi (by omega)
    have z1 : (1 : Int32).toInt = (1 : Nat) := rfl
    have e2 : 2^(57 - n) = 2 * 2^(57 - (n+1)) := by rw [← Nat.pow_succ']; congr 1; omega
    have hq57 : 2^(57 - n) ≤ 2^57 := Nat.pow_le_pow_right (by decide) (by omega)
    have q1 : bn_u (bn_shl q 1) = 2 * bn_u q := by rw [bn_shl_u z1 (by decide)] <;> omega
    rw [fFloating_quotient_166, if_neg h57]
    simp only [fFloating_quotient_179, fFloating_quotient_194, fFloating_quotient_200, fFloating_quotient_206]
    unfold bn_qs
    by_cases g : bn_u r < bn_u D
    · have g' : r < D := (bn_lt (by omega) (by omega)).mpr g
      rw [if_pos g', if_pos g]
      have r1 : bn_u (bn_shl r 1) = 2 * bn_u r := by rw [bn_shl_u z1 (by decide)] <;> omega
      have := ih (bn_shl r 1) (bn_shl q 1) (i + 1) (by omega) (by rw [hi1]; omega) (by omega) (by omega)
      rw [r1, q1] at this
      exact this
    · have g' : ¬ r < D := fun w => g ((bn_lt (by omega) (by omega)).mp w)
      rw [if_neg g', if_neg g]
      have r0 : bn_u (r - D) = bn_u r - bn_u D := bn_sub_u (by omega)
      have r1 : bn_u (bn_shl (r - D) 1) = 2 * (bn_u r - bn_u D) := by rw [bn_shl_u z1 (by decide)] <;> omega
      have q2 : bn_u (bn_shl q 1 ||| 1) = 2 * bn_u q + 1 := by
        rw [bn_u_or, q1, show bn_u 1 = 1 from rfl, bn_or_one]; omega
      have := ih (bn_shl (r - D) 1) (bn_shl q 1 ||| 1) (i + 1) (by omega) (by rw [hi1]; omega) (by omega) (by omega)
      rw [r1, q2] at this
      exact this

set_option maxHeartbeats 4000000 in
theorem bn_quotient_fin (k : Nat) (x y : Int64) (hx : bn_ok k x) (hy : bn_ok k y) (neg : Int32) (x0 : bn_mag k x ≠ 0) (y0 : bn_mag k y ≠ 0) :
    fFloating_quotient_130 k x y neg (fFloating_lift (fFormat_significand k x)) = bn_out k neg (bn_st (bn_M k x * 2^120) (bn_M k y)) (bn_S k x - bn_S k y - 120) := by
  simp only [fFloating_quotient_130, fFloating_quotient_140, fFloating_quotient_150, fFloating_quotient_160]
  have mx := bn_signif k x hx
  have my := bn_signif k y hy
  have sx := bn_scale k x hx
  have sy := bn_scale k y hy
  have mx0 := bn_M_pos k x x0
  have my0 := bn_M_pos k y y0
  have mxl := bn_M_lt53 k x
  have myl := bn_M_lt53 k y
  have sx1 := bn_S_ge k x
  have sx2 := bn_S_le k x
  have sy1 := bn_S_ge k y
  have sy2 := bn_S_le k y
  have hmn := bn_mn_le k
  have hP := bn_P_le k
  generalize fFormat_significand k x = sigx at *
  generalize fFormat_significand k y = sigy at *
  have lx := bn_lift (m := sigx) (by omega)
  have ly := bn_lift (m := sigy) (by omega)
  obtain ⟨rx, rx1, rx2⟩ := bn_lifted (m := sigx) (by omega) (by omega)
  obtain ⟨ry, ry1, ry2⟩ := bn_lifted (m := sigy) (by omega) (by omega)
  rw [mx] at lx rx rx1 rx2
  rw [my] at ly ry ry1 ry2
  have hlx : bn_len (bn_M k x) ≤ 53 := bn_len_le.mpr mxl
  have hly : bn_len (bn_M k y) ≤ 53 := bn_len_le.mpr myl
  have hlx0 := bn_len_pos mx0
  have hly0 := bn_len_pos my0
  generalize fFloating_lift sigx = liftx at *
  generalize fFloating_lift sigy = lifty at *
  have u0 : bn_u 0 = 0 := rfl
  obtain ⟨r', q', hr', hq', hloop⟩ := bn_qloop k x y neg liftx lifty (bn_shl sigy lifty) (by omega) 57 (bn_shl sigx liftx) 0 0 (by omega) rfl (by omega) (by decide)
  have hinv := bn_qs_inv (bn_u (bn_shl sigy lifty)) 57 (bn_u (bn_shl sigx liftx)) 0 (by omega)
  have hqlt := bn_qs_q (bn_u (bn_shl sigy lifty)) 57 (bn_u (bn_shl sigx liftx)) 0 (by decide) (by omega)
  rw [u0] at hr' hq'
  rw [hloop]
  clear hloop
  rw [← hr', ← hq', rx, ry, Nat.zero_mul, Nat.zero_add] at hinv
  rw [← hq'] at hqlt
  obtain ⟨hi1, hi2⟩ := hinv
  have hDpos : 0 < bn_M k y * 2^(62 - bn_len (bn_M k y)) := by omega
  have hdiv : bn_M k x * 2^(62 - bn_len (bn_M k x)) * 2^57 / (2 * (bn_M k y * 2^(62 - bn_len (bn_M k y)))) = bn_u q' := by
    rw [hi2, Nat.mul_comm (bn_u q'), Nat.mul_add_div (by omega), Nat.div_eq_of_lt hi1, Nat.add_zero]
  have hmod : bn_M k x * 2^(62 - bn_len (bn_M k x)) * 2^57 % (2 * (bn_M k y * 2^(62 - bn_len (bn_M k y)))) = bn_u r' := by
    rw [hi2, Nat.mul_comm (bn_u q'), Nat.mul_add_mod, Nat.mod_eq_of_lt hi1]
  have hmu : bn_u (if r' = 0 then q' else q' ||| 1) = bn_st (bn_M k x * 2^(62 - bn_len (bn_M k x)) * 2^57) (2 * (bn_M k y * 2^(62 - bn_len (bn_M k y)))) := by
    unfold bn_st
    rw [hdiv, hmod]
    have : (r' = 0) ↔ bn_u r' = 0 := bn_u_zero
    simp only [this]
    split
    · rfl
    · rw [bn_u_or, show bn_u 1 = 1 from rfl, bn_or_one]
  have hst : bn_st (bn_M k x * 2^(62 - bn_len (bn_M k x)) * 2^57) (2 * (bn_M k y * 2^(62 - bn_len (bn_M k y)))) = bn_st (bn_M k x * 2^(62 - bn_len (bn_M k x) + 56 - (62 - bn_len (bn_M k y)))) (bn_M k y) := by
    rw [← bn_st_mul _ (bn_M k y) (2^(62 - bn_len (bn_M k y) + 1)) (Nat.two_pow_pos _)]
    congr 1
    · rw [Nat.mul_assoc, Nat.mul_assoc, ← Nat.pow_add, ← Nat.pow_add]; congr 2; omega
    · rw [Nat.pow_succ]; rw [Nat.mul_comm 2, Nat.mul_assoc]
  have ha : 62 - bn_len (bn_M k x) + 56 - (62 - bn_len (bn_M k y)) ≤ 108 := by omega
  generalize hA : 62 - bn_len (bn_M k x) + 56 - (62 - bn_len (bn_M k y)) = a at *
  have htr := bn_st_tr (bn_M k x * 2^a) (bn_M k y) (120 - a) my0
  rw [Nat.mul_assoc, ← Nat.pow_add, show a + (120 - a) = 120 by omega] at htr
  rw [hst] at hmu
  generalize (if r' = 0 then q' else q' ||| 1) = mm at *
  have hq55 : 2^55 ≤ bn_u q' := by
    rw [← hdiv, Nat.le_div_iff_mul_le (by omega)]
    omega
  have hmq : bn_u mm / 2 = bn_u q' / 2 := by
    rw [hmu, ← hst, bn_st_half, hdiv]
  have hmm1 : 2^55 ≤ bn_u mm := by omega
  have hmm2 : bn_u mm < 2^57 := by omega
  have mm0 : mm ≠ 0 := fun q => by rw [bn_u_zero] at q; omega
  have z56 : (56 : Int32).toInt = 56 := rfl
  have e1 : (fFormat_scale k x - liftx).toInt = bn_S k x - (62 - bn_len (bn_M k x)) := by rw [bn_i_sub] <;> omega
  have e2 : (fFormat_scale k y - lifty).toInt = bn_S k y - (62 - bn_len (bn_M k y)) := by rw [bn_i_sub] <;> omega
  have e3 : (fFormat_scale k x - liftx - (fFormat_scale k y - lifty)).toInt = bn_S k x - (62 - bn_len (bn_M k x)) - (bn_S k y - (62 - bn_len (bn_M k y))) := by rw [bn_i_sub] <;> omega
  have e4 : (fFormat_scale k x - liftx - (fFormat_scale k y - lifty) - 56).toInt = bn_S k x - bn_S k y - 120 + (120 - a : Nat) := by rw [bn_i_sub] <;> omega
  rw [bn_rounded k neg mm _ mm0 (by omega) (Or.inl (by omega))]
  unfold bn_out
  congr 3
  rw [hmu, e4, ← htr]
  have hQ : 2^(120 - a) ≤ bn_st (bn_M k x * 2^120) (bn_M k y) := by
    rcases Nat.lt_or_ge (bn_st (bn_M k x * 2^120) (bn_M k y)) (2^(120 - a)) with w | w
    · exfalso
      have t : bn_tr (120 - a) (bn_st (bn_M k x * 2^120) (bn_M k y)) ≤ 1 := by
        unfold bn_tr; rw [Nat.div_eq_of_lt w]; split <;> omega
      rw [htr] at t; omega
    · exact w
  have hl := bn_tr_len hQ
  rw [htr, ← hmu] at hl
  have hl2 : 55 < bn_len (bn_u mm) := bn_lt_len.mpr hmm1
  exact bn_rn_tr _ _ _ _ _ hQ (by unfold bn_ns; omega)
end
section
theorem bn_isqrt_ex (n : Nat) : ∃ s, s * s ≤ n ∧ n < (s + 1) * (s + 1) := by
  induction n with
  | zero => exact ⟨0, by decide, by decide⟩
  | succ n ih =>
    obtain ⟨s, h1, h2⟩ := ih
    have e : (s + 1 + 1) * (s + 1 + 1) = (s + 1) * (s + 1) + 2 * (s + 1) + 1 := by
      generalize s + 1 = a
      rw [Nat.add_mul, Nat.mul_add]; omega
    by_cases q : (s + 1) * (s + 1) ≤ n + 1
    · exact ⟨s + 1, q, by omega⟩
    · exact ⟨s, by omega, by omega⟩
noncomputable def bn_isqrt (n : Nat) : Nat := Classical.choose (bn_isqrt_ex n)
theorem bn_isqrt_spec (n : Nat) : bn_isqrt n * bn_isqrt n ≤ n ∧ n < (bn_isqrt n + 1) * (bn_isqrt n + 1) := Classical.choose_spec (bn_isqrt_ex n)
theorem bn_isqrt_unique {s n : Nat} (h1 : s * s ≤ n) (h2 : n < (s + 1) * (s + 1)) : bn_isqrt n = s := by
  obtain ⟨g1, g2⟩ := bn_isqrt_spec n
  rcases Nat.lt_trichotomy (bn_isqrt n) s with q | q | q
  · have : (bn_isqrt n + 1) * (bn_isqrt n + 1) ≤ s * s := Nat.mul_le_mul q q
    omega
  · exact q
  · have : (s + 1) * (s + 1) ≤ bn_isqrt n * bn_isqrt n := Nat.mul_le_mul q q
    omega
noncomputable def bn_sq (n : Nat) : Nat := if bn_isqrt n * bn_isqrt n = n then bn_isqrt n else bn_isqrt n / 2 * 2 + 1
theorem bn_sq_half (n : Nat) : bn_sq n / 2 = bn_isqrt n / 2 := by unfold bn_sq; split <;> omega
theorem bn_pow4 (k : Nat) : 4^k = 2^k * 2^k := by rw [← Nat.mul_pow]
theorem bn_isqrt_div (n k : Nat) : bn_isqrt (n * 4^k) / 2^k = bn_isqrt n := by
  have hp := Nat.two_pow_pos k
  obtain ⟨g1, g2⟩ := bn_isqrt_spec (n * 4^k)
  symm
  apply bn_isqrt_unique
  · have h := Nat.div_mul_le_self (bn_isqrt (n * 4^k)) (2^k)
    have h2 := Nat.mul_le_mul h h
    rw [Nat.mul_mul_mul_comm, ← bn_pow4] at h2
    exact Nat.le_of_mul_le_mul_right (Nat.le_trans h2 g1) (by rw [bn_pow4]; exact Nat.mul_pos hp hp)
  · have h := Nat.lt_mul_div_succ (bn_isqrt (n * 4^k)) hp
    have h1 : bn_isqrt (n * 4^k) + 1 ≤ (bn_isqrt (n * 4^k) / 2^k + 1) * 2^k := by rw [Nat.mul_comm (_ + 1) (2^k)]; exact h
    have h2 := Nat.mul_le_mul h1 h1
    rw [Nat.mul_mul_mul_comm, ← bn_pow4] at h2
    exact Nat.lt_of_mul_lt_mul_right (Nat.lt_of_lt_of_le g2 h2)
theorem bn_sq_tr (n k : Nat) : bn_tr k (bn_sq (n * 4^k)) = bn_sq n := by
  have hp := Nat.two_pow_pos k
  have hd := bn_isqrt_div n k
  have hp4 : 0 < 4^k := by rw [bn_pow4]; exact Nat.mul_pos hp hp
  by_cases h : bn_isqrt n * bn_isqrt n = n
  · have e : bn_isqrt (n * 4^k) = bn_isqrt n * 2^k := by
      apply bn_isqrt_unique
      · rw [Nat.mul_mul_mul_comm, h, ← bn_pow4]; exact Nat.le_refl _
      · have : (bn_isqrt n * 2^k) * (bn_isqrt n * 2^k) = n * 4^k := by rw [Nat.mul_mul_mul_comm, h, ← bn_pow4]
        rw [← this]
        exact Nat.mul_lt_mul_of_lt_of_lt (Nat.lt_succ_self _) (Nat.lt_succ_self _)
    have h2 : bn_isqrt (n * 4^k) * bn_isqrt (n * 4^k) = n * 4^k := by rw [e, Nat.mul_mul_mul_comm, h, ← bn_pow4]
    unfold bn_sq
    rw [if_pos h2, if_pos h, e]
    unfold bn_tr
    rw [if_pos (Nat.mul_mod_left _ _), Nat.mul_div_cancel _ hp]
  · rcases Nat.eq_zero_or_pos k with q | q
    · subst q; rw [Nat.pow_zero, Nat.mul_one, bn_tr_zero]
    · have e2 : 2^k = 2 * 2^(k-1) := by rw [← Nat.pow_succ']; congr 1; omega
      have hT : bn_sq (n * 4^k) / 2^k = bn_isqrt n := by
        rw [← hd, e2, ← Nat.div_div_eq_div_mul, ← Nat.div_div_eq_div_mul, bn_sq_half]
      have hne : bn_sq (n * 4^k) % 2^k ≠ 0 := by
        intro w
        have hd2 := Nat.div_add_mod (bn_sq (n * 4^k)) (2^k)
        rw [w, hT] at hd2
        by_cases g : bn_isqrt (n * 4^k) * bn_isqrt (n * 4^k) = n * 4^k
        · have hh : bn_sq (n * 4^k) = bn_isqrt (n * 4^k) := by unfold bn_sq; rw [if_pos g]
          rw [hh, Nat.add_zero] at hd2
          rw [← hd2, Nat.mul_mul_mul_comm, ← bn_pow4, Nat.mul_comm] at g
          exact h (Nat.eq_of_mul_eq_mul_right hp4 g)
        · have hh : bn_sq (n * 4^k) = bn_isqrt (n * 4^k) / 2 * 2 + 1 := by unfold bn_sq; rw [if_neg g]
          have hd' : 2 * (2^(k-1) * bn_isqrt n) = bn_sq (n * 4^k) := by rw [← Nat.mul_assoc, ← e2]; exact hd2
          omega
      rw [bn_tr, if_neg hne, hT, bn_sq, if_neg h]
def bn_rs : Nat → Nat × Nat × Nat → Nat × Nat × Nat
  | 0, s => s
  | n + 1, (p, s, r) => bn_rs n (if 4 * r + p / 2^60 < 4 * s + 1 then (4 * p % 2^62, 2 * s, 4 * r + p / 2^60) else (4 * p % 2^62, 2 * s + 1, 4 * r + p / 2^60 - (4 * s + 1)))
theorem bn_rs_inv : ∀ (n p s r : Nat), p < 2^62 → r ≤ 2 * s → (bn_rs n (p, s, r)).1 < 2^62 ∧ (bn_rs n (p, s, r)).2.2 ≤ 2 * (bn_rs n (p, s, r)).2.1 ∧
    (p + 2^62 * (s * s + r)) * 4^n = (bn_rs n (p, s, r)).1 + 2^62 * ((bn_rs n (p, s, r)).2.1 * (bn_rs n (p, s, r)).2.1 + (bn_rs n (p, s, r)).2.2) := by
  intro n
  induction n with
  | zero => intro p s r h1 h2; exact ⟨h1, h2, by simp [bn_rs]⟩
  | succ n ih =>
    intro p s r h1 h2
    have e : ∀ a : Nat, a * 4^(n+1) = (4 * a) * 4^n := fun a => by rw [Nat.pow_succ']; rw [← Nat.mul_assoc, Nat.mul_comm a 4]
    have hp : 4 * p = 4 * p % 2^62 + 2^62 * (p / 2^60) := by omega
    have hpl : 4 * p % 2^62 < 2^62 := Nat.mod_lt _ (by decide)
    have hp3 : p / 2^60 ≤ 3 := by omega
    unfold bn_rs
    show _ ∧ _ ∧ (p + 2^62 * (s * s + r)) * 4^(n+1) = _
    rw [e]
    have s4 : (2 * s) * (2 * s) = 4 * (s * s) := by rw [Nat.mul_mul_mul_comm]
    have s5 : (2 * s + 1) * (2 * s + 1) = 4 * (s * s) + 4 * s + 1 := by rw [Nat.add_mul, Nat.mul_add, s4]; omega
    by_cases g : 4 * r + p / 2^60 < 4 * s + 1
    · rw [if_pos g]
      obtain ⟨i1, i2, i3⟩ := ih (4 * p % 2^62) (2 * s) (4 * r + p / 2^60) hpl (by omega)
      refine ⟨i1, i2, ?_⟩
      rw [← i3]; congr 1
      rw [s4]; omega
    · rw [if_neg g]
      obtain ⟨i1, i2, i3⟩ := ih (4 * p % 2^62) (2 * s + 1) (4 * r + p / 2^60 - (4 * s + 1)) hpl (by omega)
      refine ⟨i1, i2, ?_⟩
      rw [← i3]; congr 1
      rw [s5]; omega

theorem bn_rs_s (n p s r : Nat) (h : n ≤ 57) (hs : s < 2^(57 - n)) : (bn_rs n (p, s, r)).2.1 < 2^57 := by
  induction n generalizing p s r with
  | zero => exact hs
  | succ n ih =>
    unfold bn_rs
    have e : 2^(57 - n) = 2 * 2^(57 - (n+1)) := by rw [← Nat.pow_succ']; congr 1; omega
    split
    · exact ih _ _ _ (by omega) (by omega)
    · exact ih _ _ _ (by omega) (by omega)
theorem bn_or_low (a b : Nat) (h : b < 4) : (4 * a) ||| b = 4 * a + b := by
  have := Nat.two_pow_add_eq_or_of_lt (i := 2) (b := b) h a
  rw [show (2 : Nat)^2 = 4 from rfl] at this
  exact this.symm
theorem bn_rloop (k : Nat) (x : Int64) (l1 : Int32) : ∀ (n : Nat) (p s r : Int64) (i : Int32), n ≤ 57 → i.toInt = (57 - n : Nat) → bn_u r ≤ 2 * bn_u s → bn_u s < 2^(57 - n) →
    ∃ s' r' : Int64, bn_u s' = (bn_rs n (bn_u p % 2^62, bn_u s, bn_u r)).2.1 ∧ bn_u r' = (bn_rs n (bn_u p % 2^62, bn_u s, bn_u r)).2.2 ∧
      fFloating_root_72 (n + 1) k x l1 p s r i = fFormat_rounded k 0 (if r' = 0 then s' else s' ||| 1) ((fFormat_scale k x - l1) / 2 + 31 - 57) := by
  intro n
  induction n with
  | zero =>
    intro p s r i _ hi hr hq
    refine ⟨s, r, rfl, rfl, ?_⟩
    have h57 : (57 : Int32) ≤ i := by rw [Int32.le_iff_toInt_le, hi]; decide
    rw [fFloating_root_72, if_pos h57]
    simp only [fFloating_root_177]
    split <;> rfl
  | succ n ih =>
    intro p s r i hn hi hr hs
    have h57 : ¬ (57 : Int32) ≤ i := by rw [Int32.le_iff_toInt_le, hi]; show ¬ (57 : Int) ≤ _; omega
    have hi1 := bn_i_count i _ hi (by omega)
    have z1 : (1 : Int32).toInt = (1 : Nat) := rfl
    have z2 : (2 : Int32).toInt = (2 : Nat) := rfl
    have z60 : (60 : Int32).toInt = (60 : Nat) := rfl
    have e2 : 2^(57 - n) = 2 * 2^(57 - (n+1)) := by rw [← Nat.pow_succ']; congr 1; omega
    have hq57 : 2^(57 - n) ≤ 2^57 := Nat.pow_le_pow_right (by decide) (by omega)
    have hpu := bn_u_lt p
    have s1 : bn_u (bn_shl s 1) = 2 * bn_u s := by rw [bn_shl_u z1 (by decide)] <;> omega
    have s2 : bn_u (bn_shl s 2) = 4 * bn_u s := by rw [bn_shl_u z2 (by decide)] <;> omega
    have r2 : bn_u (bn_shl r 2) = 4 * bn_u r := by rw [bn_shl_u z2 (by decide)] <;> omega
    have p2 : bn_u (bn_shl p 2) % 2^62 = 4 * (bn_u p % 2^62) % 2^62 := by
      rw [bn_u_shl]; show _ * 2^2 % 2^64 % 2^62 = _; omega
    have t1 : bn_u (bn_shl s 2 ||| 1) = 4 * bn_u s + 1 := by
      rw [bn_u_or, s2, show bn_u 1 = 1 from rfl, bn_or_low _ _ (by decide)]
    have pt : bn_u (bn_shr p 60 &&& 3) = bn_u p % 2^62 / 2^60 := by
      rw [bn_u_and, bn_shr_u z60 (by decide), show bn_u 3 = 2^2 - 1 from rfl, bn_and_mask]; omega
    have rr : bn_u (bn_shl r 2 ||| (bn_shr p 60 &&& 3)) = 4 * bn_u r + bn_u p % 2^62 / 2^60 := by
      rw [bn_u_or, r2, pt, bn_or_low _ _ (by omega)]
    rw [fFloating_root_72, if_neg h57]
    simp only [fFloating_root_95, fFloating_root_101, fFloating_root_109, fFloating_root_115, fFloating_root_130, fFloating_root_136]
    generalize bn_shl r 2 ||| (bn_shr p 60 &&& 3) = R at *
    generalize bn_shl s 2 ||| 1 = T at *
    unfold bn_rs
    by_cases g : 4 * bn_u r + bn_u p % 2^62 / 2^60 < 4 * bn_u s + 1
    · have g' : R < T := (bn_lt (by omega) (by omega)).mpr (by omega)
      rw [if_pos g', if_pos g]
      have := ih (bn_shl p 2) (bn_shl s 1) R (i + 1) (by omega) (by rw [hi1]; omega) (by omega) (by omega)
      rw [p2, s1, rr] at this
      exact this
    · have g' : ¬ R < T := fun w => g (by have := (bn_lt (by omega) (by omega)).mp w; omega)
      rw [if_neg g', if_neg g]
      have r0 : bn_u (R - T) = bn_u R - bn_u T := bn_sub_u (by omega)
      have q2 : bn_u (bn_shl s 1 ||| 1) = 2 * bn_u s + 1 := by
        rw [bn_u_or, s1, show bn_u 1 = 1 from rfl, bn_or_one]; omega
      have := ih (bn_shl p 2) (bn_shl s 1 ||| 1) (R - T) (i + 1) (by omega) (by rw [hi1]; omega) (by omega) (by omega)
      rw [p2, q2, r0, rr, t1] at this
      exact this
theorem bn_i_and1 (a : Int32) : (a &&& 1).toInt = a.toInt % 2 := by
  have h1 : bn_v (a &&& 1) = bn_v a % 2 := by
    rw [bn_v_and, show bn_v 1 = 2^1 - 1 from rfl, bn_and_mask]
  have h2 := bn_v_s a
  have h3 := bn_v_s (a &&& 1)
  rw [h1] at h3
  have h4 : bn_v a < 2^32 := a.toBitVec.isLt
  rw [h3, h2]
  split <;> split <;> omega
theorem bn_i_half (a : Int32) (h : a.toInt % 2 = 0) (hb : -10000 ≤ a.toInt ∧ a.toInt ≤ 10000) : (a / 2).toInt = a.toInt / 2 := by
  have z2 : (2 : Int32).toInt = 2 := rfl
  have hne : a ≠ Int32.minValue := by
    intro q; rw [q] at hb; have : Int32.minValue.toInt = -2147483648 := rfl; omega
  rw [Int32.toInt_div_of_ne_left _ _ hne, z2, Int.tdiv_eq_ediv_of_dvd (by omega)]
theorem bn_cancel {B p' T C : Nat} (h : C * B = p' + C * T) (hp : p' < C) : B = T := by
  rcases Nat.lt_trichotomy B T with q | q | q
  · have := Nat.mul_le_mul_left C q
    rw [Nat.mul_succ] at this; omega
  · exact q
  · have := Nat.mul_le_mul_left C q
    rw [Nat.mul_succ] at this; omega
theorem bn_rs_end {PP p' T : Nat} (h : PP * 4^57 = p' + 2^62 * T) (hp : p' < 2^62) : PP * 2^52 = T := by
  refine bn_cancel (C := 2^62) ?_ hp
  rw [← h, Nat.mul_comm, Nat.mul_assoc]
def bn_rc (k : Nat) (x : Int64) : Nat := 200 + (bn_S k x % 2).toNat
set_option maxHeartbeats 4000000 in
theorem bn_root_fin (k : Nat) (x : Int64) (hx : bn_ok k x) (x0 : bn_mag k x ≠ 0) :
    fFloating_root_42 k x (fFloating_lift (fFormat_significand k x)) = bn_out k 0 (bn_sq (bn_M k x * 2^bn_rc k x)) ((bn_S k x - bn_rc k x) / 2) := by
  simp only [fFloating_root_42, fFloating_root_54, fFloating_root_63]
  have mx := bn_signif k x hx
  have sx := bn_scale k x hx
  have mx0 := bn_M_pos k x x0
  have mxl := bn_M_lt53 k x
  have sx1 := bn_S_ge k x
  have sx2 := bn_S_le k x
  have hmn := bn_mn_le k
  have hP := bn_P_le k
  generalize fFormat_significand k x = sigx at *
  have lx := bn_lift (m := sigx) (by omega)
  rw [mx] at lx
  have hlx : bn_len (bn_M k x) ≤ 53 := bn_len_le.mpr mxl
  have hlx0 := bn_len_pos mx0
  generalize fFloating_lift sigx = lift0 at *
  have a1 : (fFormat_scale k x - lift0).toInt = bn_S k x - (62 - bn_len (bn_M k x)) := by rw [bn_i_sub] <;> omega
  have a2 := bn_i_and1 (fFormat_scale k x - lift0)
  rw [a1] at a2
  have a3 : (lift0 - (fFormat_scale k x - lift0 &&& 1)).toInt = 62 - bn_len (bn_M k x) - (bn_S k x - (62 - bn_len (bn_M k x))) % 2 := by rw [bn_i_sub] <;> omega
  generalize lift0 - (fFormat_scale k x - lift0 &&& 1) = lift at *
  have hlift : lift.toInt = (62 - bn_len (bn_M k x) - ((bn_S k x - (62 - bn_len (bn_M k x))) % 2).toNat : Nat) := by omega
  generalize hLL : 62 - bn_len (bn_M k x) - ((bn_S k x - (62 - bn_len (bn_M k x))) % 2).toNat = LL at *
  have hLL1 : 61 ≤ LL + bn_len (bn_M k x) ∧ LL + bn_len (bn_M k x) ≤ 62 ∧ LL ≤ 61 := by omega
  have hpar : (bn_S k x - LL) % 2 = 0 := by omega
  have hlenp := bn_len_mul mx0 LL
  have hpl : bn_M k x * 2^LL < 2^62 := bn_len_le.mp (by omega)
  have hpg : 2^60 ≤ bn_M k x * 2^LL := bn_lt_len.mp (by omega)
  have hpu : bn_u (bn_shl sigx lift) = bn_M k x * 2^LL := by
    rw [bn_shl_u hlift (by omega)] <;> rw [mx]; omega
  have u0 : bn_u 0 = 0 := rfl
  obtain ⟨s', r', hs', hr', hloop⟩ := bn_rloop k x lift 57 (bn_shl sigx lift) 0 0 0 (by omega) rfl (by decide) (by decide)
  rw [hloop]
  clear hloop
  rw [u0, hpu, Nat.mod_eq_of_lt hpl] at hs' hr'
  obtain ⟨i1, i2, i3⟩ := bn_rs_inv 57 (bn_M k x * 2^LL) 0 0 hpl (by decide)
  have i4 := bn_rs_s 57 (bn_M k x * 2^LL) 0 0 (by omega) (by decide)
  rw [← hs', ← hr'] at i2
  rw [← hs', ← hr', Nat.mul_zero, Nat.add_zero] at i3
  rw [← hs'] at i4
  have hN : bn_M k x * 2^LL * 2^52 = bn_u s' * bn_u s' + bn_u r' := bn_rs_end i3 i1
  clear i3 i1
  have hNL : bn_M k x * 2^LL * 2^52 = bn_M k x * 2^(LL + 52) := by rw [Nat.mul_assoc, ← Nat.pow_add]
  have hsq : bn_isqrt (bn_M k x * 2^(LL + 52)) = bn_u s' := by
    rw [← hNL, hN]
    apply bn_isqrt_unique
    · omega
    · rw [Nat.add_mul, Nat.mul_add]; omega
  have hmu : bn_u (if r' = 0 then s' else s' ||| 1) = bn_sq (bn_M k x * 2^(LL + 52)) := by
    unfold bn_sq
    rw [hsq]
    have : (r' = 0) ↔ bn_u s' * bn_u s' = bn_M k x * 2^(LL + 52) := by
      rw [bn_u_zero, ← hNL, hN]; omega
    simp only [this]
    split
    · rfl
    · rw [bn_u_or, show bn_u 1 = 1 from rfl, bn_or_one]
  generalize (if r' = 0 then s' else s' ||| 1) = mm at *
  have hs56 : 2^56 ≤ bn_u s' := by
    rcases Nat.lt_or_ge (bn_u s') (2^56) with w | w
    · exfalso
      have : (bn_u s' + 1) * (bn_u s' + 1) ≤ 2^56 * 2^56 := Nat.mul_le_mul w w
      obtain ⟨-, g2⟩ := bn_isqrt_spec (bn_M k x * 2^(LL + 52))
      rw [hsq, ← hNL] at g2
      omega
    · exact w
  have hmh : bn_u mm / 2 = bn_u s' / 2 := by rw [hmu, bn_sq_half, hsq]
  have mm0 : mm ≠ 0 := fun q => by rw [bn_u_zero] at q; omega
  have hc1 : 200 ≤ bn_rc k x ∧ bn_rc k x ≤ 201 ∧ (bn_S k x - bn_rc k x) % 2 = 0 := by unfold bn_rc; omega
  generalize bn_rc k x = c at *
  have hj : ∃ j : Nat, c = LL + 52 + 2 * j := ⟨(c - (LL + 52)) / 2, by omega⟩
  obtain ⟨j, hj⟩ := hj
  have hcj : bn_M k x * 2^c = bn_M k x * 2^(LL + 52) * 4^j := by
    rw [hj, Nat.pow_add, Nat.pow_mul, ← Nat.mul_assoc]
  have htr := bn_sq_tr (bn_M k x * 2^(LL + 52)) j
  rw [← hcj] at htr
  have z31 : (31 : Int32).toInt = 31 := rfl
  have z57 : (57 : Int32).toInt = 57 := rfl
  have f1 : (fFormat_scale k x - lift).toInt = bn_S k x - LL := by rw [bn_i_sub] <;> omega
  have f2 := bn_i_half (fFormat_scale k x - lift) (by omega) (by omega)
  have f3 : ((fFormat_scale k x - lift) / 2 + 31).toInt = (bn_S k x - LL) / 2 + 31 := by rw [bn_i_add] <;> omega
  have f4 : ((fFormat_scale k x - lift) / 2 + 31 - 57).toInt = (bn_S k x - c) / 2 + j := by rw [bn_i_sub] <;> omega
  have hQ : 2^j ≤ bn_sq (bn_M k x * 2^c) := by
    rcases Nat.lt_or_ge (bn_sq (bn_M k x * 2^c)) (2^j) with w | w
    · exfalso
      have t : bn_tr j (bn_sq (bn_M k x * 2^c)) ≤ 1 := by
        unfold bn_tr; rw [Nat.div_eq_of_lt w]; split <;> omega
      rw [htr] at t; omega
    · exact w
  have hl := bn_tr_len hQ
  rw [htr, ← hmu] at hl
  have hl2 : 56 ≤ bn_len (bn_u mm) := by
    have : 55 < bn_len (bn_u mm) := bn_lt_len.mpr (by omega)
    omega
  have key := bn_rn_tr (bn_P k) (bn_mn k) _ ((bn_S k x - c) / 2) j hQ (by unfold bn_ns; omega)
  rw [htr, ← hmu] at key
  rw [bn_rounded k 0 mm _ mm0 (by omega) (Or.inl (by omega)), f4, key, bn_out]
end
section
def bn_V (k : Nat) (x : Int64) : Nat := bn_M k x * 2^(bn_S k x - bn_mn k).toNat
theorem bn_S_ex (k : Nat) (x : Int64) : (bn_S k x - bn_mn k).toNat = bn_ex k x - 1 := by unfold bn_S; omega
theorem bn_mag_ex (k : Nat) (x : Int64) : bn_mag k x = bn_ex k x * 2^(bn_P k - 1) + bn_mag k x % 2^(bn_P k - 1) := by
  unfold bn_ex; have := Nat.div_add_mod (bn_mag k x) (2^(bn_P k - 1)); rw [Nat.mul_comm]; omega
theorem bn_V_lt_of_ex {k : Nat} {x y : Int64} (h : bn_ex k x < bn_ex k y) : bn_V k x < bn_V k y := by
  have hP := bn_P_le k
  have hf := Nat.mod_lt (bn_mag k x) (Nat.two_pow_pos (bn_P k - 1))
  have hy : bn_V k y = (2^(bn_P k - 1) + bn_mag k y % 2^(bn_P k - 1)) * 2^(bn_ex k y - 1) := by
    unfold bn_V bn_M; rw [bn_S_ex, if_neg (by omega)]
  have hy2 : 2^(bn_P k - 1) * 2^(bn_ex k y - 1) ≤ bn_V k y := by rw [hy]; exact Nat.mul_le_mul_right _ (by omega)
  have hx : bn_V k x < 2^(bn_P k - 1) * 2^(bn_ex k x) := by
    unfold bn_V bn_M; rw [bn_S_ex]
    by_cases q : bn_ex k x = 0
    · rw [if_pos q, q]
      have := bn_mag_ex k x
      rw [q] at this
      simp; omega
    · rw [if_neg q, show 2^bn_ex k x = 2 * 2^(bn_ex k x - 1) by rw [← Nat.pow_succ']; congr 1; omega, ← Nat.mul_assoc]
      exact Nat.mul_lt_mul_of_pos_right (by omega) (Nat.two_pow_pos _)
  have : 2^(bn_P k - 1) * 2^(bn_ex k x) ≤ 2^(bn_P k - 1) * 2^(bn_ex k y - 1) := Nat.mul_le_mul_left _ (Nat.pow_le_pow_right (by decide) (by omega))
  omega
theorem bn_V_mono {k : Nat} {x y : Int64} (h : bn_mag k x ≤ bn_mag k y) : bn_V k x ≤ bn_V k y := by
  have he : bn_ex k x ≤ bn_ex k y := Nat.div_le_div_right h
  rcases Nat.lt_or_eq_of_le he with q | q
  · exact Nat.le_of_lt (bn_V_lt_of_ex q)
  · have hx := bn_mag_ex k x
    have hy := bn_mag_ex k y
    rw [q] at hx
    unfold bn_V bn_M
    rw [bn_S_ex, bn_S_ex, q]
    apply Nat.mul_le_mul_right
    split
    · exact h
    · omega
theorem bn_V_eq {k : Nat} {x y : Int64} (h : bn_V k x = bn_V k y) : bn_mag k x = bn_mag k y := by
  rcases Nat.lt_trichotomy (bn_ex k x) (bn_ex k y) with q | q | q
  · have := bn_V_lt_of_ex q; omega
  · have hx := bn_mag_ex k x
    have hy := bn_mag_ex k y
    rw [q] at hx
    unfold bn_V bn_M at h
    rw [bn_S_ex, bn_S_ex, q] at h
    have := Nat.eq_of_mul_eq_mul_right (Nat.two_pow_pos _) h
    split at this <;> omega
  · have := bn_V_lt_of_ex q; omega
theorem bn_S_mono {k : Nat} {x y : Int64} (h : bn_mag k x ≤ bn_mag k y) : bn_S k x ≤ bn_S k y := by
  have he : bn_ex k x ≤ bn_ex k y := Nat.div_le_div_right h
  unfold bn_S; omega
theorem bn_tr_big {d r : Nat} (h : r < 2^d) : bn_tr d r = if r = 0 then 0 else 1 := by
  unfold bn_tr
  rw [Nat.div_eq_of_lt h, Nat.mod_eq_of_lt h]
theorem bn_tr_add (d G R : Nat) (hG : G % 2 = 0) : bn_tr d (G * 2^d + R) = G + bn_tr d R := by
  unfold bn_tr
  rw [Nat.mul_comm, Nat.mul_add_mod, Nat.mul_add_div (Nat.two_pow_pos d)]
  split <;> omega
theorem bn_tr_sub (d G R : Nat) (hG : G % 2 = 0) (h : R ≤ G * 2^d) : bn_tr d (G * 2^d - R) = G - bn_tr d R ∧ bn_tr d R ≤ G := by
  have hp := Nat.two_pow_pos d
  have hR := Nat.div_add_mod R (2^d)
  have hm := Nat.mod_lt R hp
  rcases Nat.eq_zero_or_pos (R % 2^d) with q | q
  · have e : G * 2^d - R = (G - R / 2^d) * 2^d := by
      rw [Nat.sub_mul, Nat.mul_comm (R / 2^d)]; omega
    have hle : R / 2^d ≤ G := by
      rw [Nat.mul_comm] at h
      exact Nat.div_le_of_le_mul h
    unfold bn_tr
    rw [e, if_pos (Nat.mul_mod_left _ _), Nat.mul_div_cancel _ hp, if_pos q]
    exact ⟨rfl, hle⟩
  · have hlt : R / 2^d < G := by
      rw [Nat.div_lt_iff_lt_mul hp]
      rcases Nat.lt_or_eq_of_le h with w | w
      · exact w
      · rw [w, Nat.mul_mod_left] at q; omega
    have e : G * 2^d - R = 2^d * (G - R / 2^d - 1) + (2^d - R % 2^d) := by
      obtain ⟨c, hc⟩ : ∃ c, G = R / 2^d + 1 + c := ⟨G - R / 2^d - 1, by omega⟩
      have : G - R / 2^d - 1 = c := by omega
      rw [this, hc, Nat.add_mul, Nat.add_mul, Nat.one_mul, Nat.mul_comm (R / 2^d), Nat.mul_comm c]
      omega
    have hm1 : (G * 2^d - R) % 2^d = 2^d - R % 2^d := by rw [e, Nat.mul_add_mod, Nat.mod_eq_of_lt (by omega)]
    have hd1 : (G * 2^d - R) / 2^d = G - R / 2^d - 1 := by rw [e, Nat.mul_add_div hp, Nat.div_eq_of_lt (a := 2^d - R % 2^d) (by omega), Nat.add_zero]
    unfold bn_tr
    rw [hm1, hd1, if_neg (by omega), if_neg (by omega)]
    omega
theorem bn_trace (r : Int64) (b : Int32) (d : Nat) (hb : b.toInt = d) (hr : bn_u r < 2^63) : bn_u (fFloating_shiftedWithTrace r b) = bn_tr d (bn_u r) := by
  have z63 : (63 : Int32).toInt = 63 := rfl
  unfold fFloating_shiftedWithTrace
  by_cases q : b ≤ 63
  · rw [if_pos q]
    rw [Int32.le_iff_toInt_le, z63] at q
    unfold fFloating_shiftedWithTrace_22
    have s1 : bn_u (bn_shr r b) = bn_u r / 2^d := bn_shr_u hb (by omega)
    have hdm := Nat.div_add_mod (bn_u r) (2^d)
    have s2 : bn_u (bn_shl (bn_shr r b) b) = bn_u r / 2^d * 2^d := by
      rw [bn_shl_u hb (by omega)] <;> rw [s1]
      rw [Nat.mul_comm]; omega
    have c : (bn_shl (bn_shr r b) b = r) ↔ bn_u r % 2^d = 0 := by
      rw [bn_u_eq, s2, Nat.mul_comm]; omega
    simp only [c]
    unfold bn_tr
    split
    · exact s1
    · rw [bn_u_or, s1, show bn_u 1 = 1 from rfl, bn_or_one]
  · rw [if_neg q]
    rw [Int32.le_iff_toInt_le, z63] at q
    have hp : 2^63 ≤ 2^d := Nat.pow_le_pow_right (by decide) (by omega)
    rw [bn_tr_big (by omega)]
    have : (r = 0) ↔ bn_u r = 0 := bn_u_zero
    simp only [this]
    split <;> rfl

theorem bn_tr_pos {d n : Nat} (h : 0 < n) : 0 < bn_tr d n := by
  unfold bn_tr
  split
  · next q =>
    have := Nat.div_add_mod n (2^d)
    rcases Nat.eq_zero_or_pos (n / 2^d) with w | w
    · rw [w, q] at this; omega
    · exact w
  · omega
theorem bn_rn_trace (P : Nat) (mn : Int) (n : Nat) (e : Int) (d : Nat) (h0 : 0 < n) (h : n % 2^d = 0 ∨ d + P + 2 ≤ bn_len n) : bn_rn P mn (bn_tr d n) (e + d) = bn_rn P mn n e := by
  by_cases q : n % 2^d = 0
  · have hn : n = n / 2^d * 2^d := by have := Nat.div_add_mod n (2^d); rw [Nat.mul_comm]; omega
    have hq : 0 < n / 2^d := by
      rcases Nat.eq_zero_or_pos (n / 2^d) with w | w
      · rw [w, Nat.zero_mul] at hn; omega
      · exact w
    have := bn_rn_mul P mn (n / 2^d) e d hq
    rw [← hn] at this
    rw [this, bn_tr, if_pos q]
  · have hl : d + P + 2 ≤ bn_len n := by rcases h with w | w; exact absurd w q; exact w
    exact bn_rn_tr P mn n e d (bn_lt_len.mp (by omega)) (by unfold bn_ns; omega)
set_option maxHeartbeats 1000000 in
theorem bn_sum_rows (k : Nat) (g s : Int64) (hg : bn_ok k g) (hs : bn_ok k s) (hgs : bn_mag k s ≤ bn_mag k g) :
    let lift : Int32 := 62 - fm_places k
    let G := bn_shl (fFormat_significand k g) lift
    let R := fFloating_shiftedWithTrace (bn_shl (fFormat_significand k s) lift) (fFormat_scale k g - fFormat_scale k s)
    (bn_u (G + R) = 0 ↔ bn_V k g + bn_V k s = 0) ∧ (bn_u (G - R) = 0 ↔ bn_V k g = bn_V k s) ∧
    (bn_V k g + bn_V k s ≠ 0 → ∀ neg, fFormat_rounded k neg (G + R) (fFormat_scale k g - lift) = bn_out k neg (bn_V k g + bn_V k s) (bn_mn k)) ∧
    (bn_V k g ≠ bn_V k s → ∀ neg, fFormat_rounded k neg (G - R) (fFormat_scale k g - lift) = bn_out k neg (bn_V k g - bn_V k s) (bn_mn k)) := by
  intro lift G R
  have hP := bn_P_le k
  have hmn := bn_mn_le k
  have mg := bn_signif k g hg
  have ms := bn_signif k s hs
  have sg := bn_scale k g hg
  have ss := bn_scale k s hs
  have mgl := bn_M_lt k g
  have msl := bn_M_lt k s
  have sg1 := bn_S_ge k g
  have sg2 := bn_S_le k g
  have ss1 := bn_S_ge k s
  have ss2 := bn_S_le k s
  have hSS := bn_S_mono hgs
  have hVV := bn_V_mono hgs
  have z62 : (62 : Int32).toInt = 62 := rfl
  have hlift : lift.toInt = (62 - bn_P k : Nat) := by
    show (62 - fm_places k).toInt = _
    rw [bn_i_sub] <;> rw [bn_places, z62] <;> omega
  obtain ⟨L, hL⟩ : ∃ L, L = 62 - bn_P k := ⟨_, rfl⟩
  rw [← hL] at hlift
  have hLP : 2^bn_P k * 2^L = 2^62 := by rw [← Nat.pow_add]; congr 1; omega
  have uG : bn_u G = bn_M k g * 2^L := by
    have : bn_M k g * 2^L < 2^62 := by rw [← hLP]; exact Nat.mul_lt_mul_of_pos_right mgl (Nat.two_pow_pos L)
    show bn_u (bn_shl _ lift) = _
    rw [bn_shl_u hlift (by omega)] <;> rw [mg]; omega
  have uGl : bn_M k g * 2^L < 2^62 := by rw [← hLP]; exact Nat.mul_lt_mul_of_pos_right mgl (Nat.two_pow_pos L)
  have uRl : bn_M k s * 2^L < 2^62 := by rw [← hLP]; exact Nat.mul_lt_mul_of_pos_right msl (Nat.two_pow_pos L)
  have uR0 : bn_u (bn_shl (fFormat_significand k s) lift) = bn_M k s * 2^L := by
    rw [bn_shl_u hlift (by omega)] <;> rw [ms]; omega
  obtain ⟨d, hd⟩ : ∃ d : Nat, bn_S k g - bn_S k s = d := ⟨(bn_S k g - bn_S k s).toNat, by omega⟩
  have hdi : (fFormat_scale k g - fFormat_scale k s).toInt = d := by rw [bn_i_sub] <;> omega
  have uR : bn_u R = bn_tr d (bn_M k s * 2^L) := by
    show bn_u (fFloating_shiftedWithTrace _ _) = _
    rw [bn_trace _ _ d hdi (by omega), uR0]
  have hGe : bn_M k g * 2^L % 2 = 0 := by
    rw [show 2^L = 2 * 2^(L-1) by rw [← Nat.pow_succ']; congr 1; omega, ← Nat.mul_assoc, Nat.mul_right_comm]
    omega
  have hVg : bn_V k g = bn_M k g * 2^d * 2^(bn_S k s - bn_mn k).toNat := by
    unfold bn_V; rw [Nat.mul_assoc, ← Nat.pow_add]; congr 2; omega
  have hVs : bn_V k s = bn_M k s * 2^(bn_S k s - bn_mn k).toNat := rfl
  have hle : bn_M k s ≤ bn_M k g * 2^d := by
    rw [hVg, hVs] at hVV
    exact Nat.le_of_mul_le_mul_right hVV (Nat.two_pow_pos _)
  have tp := Nat.two_pow_pos (bn_S k s - bn_mn k).toNat
  have hRle : bn_M k s * 2^L ≤ bn_M k g * 2^L * 2^d := by
    rw [Nat.mul_right_comm]; exact Nat.mul_le_mul_right _ hle
  have hadd := bn_tr_add d (bn_M k g * 2^L) (bn_M k s * 2^L) hGe
  obtain ⟨hsub, htle⟩ := bn_tr_sub d (bn_M k g * 2^L) (bn_M k s * 2^L) hGe hRle
  have htl : bn_tr d (bn_M k s * 2^L) ≤ 2^62 := by omega
  have uadd : bn_u (G + R) = bn_tr d (bn_M k g * 2^L * 2^d + bn_M k s * 2^L) := by
    rw [bn_add_u] <;> rw [uG, uR]
    · exact hadd.symm
    · omega
  have usub : bn_u (G - R) = bn_tr d (bn_M k g * 2^L * 2^d - bn_M k s * 2^L) := by
    rw [bn_sub_u] <;> rw [uG, uR]
    · exact hsub.symm
    · exact htle
  have eadd : bn_M k g * 2^L * 2^d + bn_M k s * 2^L = (bn_M k g * 2^d + bn_M k s) * 2^L := by
    rw [Nat.add_mul, Nat.mul_right_comm]
  have esub : bn_M k g * 2^L * 2^d - bn_M k s * 2^L = (bn_M k g * 2^d - bn_M k s) * 2^L := by
    rw [Nat.sub_mul, Nat.mul_right_comm]
  have vadd : bn_V k g + bn_V k s = (bn_M k g * 2^d + bn_M k s) * 2^(bn_S k s - bn_mn k).toNat := by rw [hVg, hVs, Nat.add_mul]
  have vsub : bn_V k g - bn_V k s = (bn_M k g * 2^d - bn_M k s) * 2^(bn_S k s - bn_mn k).toNat := by rw [hVg, hVs, Nat.sub_mul]
  have hLp := Nat.two_pow_pos L
  have hlong : ∀ n : Nat, n * 2^L % 2^d = 0 ∨ 10 ≤ d := by
    intro n
    rcases Nat.lt_or_ge d 10 with q | q
    · left
      have : L = (L - d) + d := by omega
      rw [this, Nat.pow_add, ← Nat.mul_assoc, Nat.mul_mod_left]
    · right; exact q
  have hbig : 10 ≤ d → 2^60 * 2^d ≤ bn_M k g * 2^L * 2^d - bn_M k s * 2^L := by
    intro q
    have h1 := bn_M_ge k g (by omega)
    have h2 : 2^(bn_P k - 1) * 2^L = 2^61 := by rw [← Nat.pow_add]; congr 1; omega
    have h3 : 2^61 ≤ bn_M k g * 2^L := by rw [← h2]; exact Nat.mul_le_mul_right _ h1
    have h4 := Nat.mul_le_mul_right (2^d) h3
    have h5 : 2^10 ≤ 2^d := Nat.pow_le_pow_right (by decide) q
    omega
  have scl : (fFormat_scale k g - lift).toInt = bn_S k s - L + d := by rw [bn_i_sub] <;> omega
  have main : ∀ (n : Nat) (mm : Int64) (neg : Int32), 0 < n → bn_u mm = bn_tr d (n * 2^L) → bn_u mm < 2^63 → (n * 2^L % 2^d = 0 ∨ d + bn_P k + 2 ≤ bn_len (n * 2^L)) →
      fFormat_rounded k neg mm (fFormat_scale k g - lift) = bn_out k neg (n * 2^(bn_S k s - bn_mn k).toNat) (bn_mn k) := by
    intro n mm neg hn hmu hml hc
    have hnL : 0 < n * 2^L := Nat.mul_pos hn hLp
    have hm0 : mm ≠ 0 := by
      intro q; rw [bn_u_zero, hmu] at q
      have := bn_tr_pos (d := d) hnL
      omega
    rw [bn_rounded k neg mm _ hm0 (by omega) (Or.inl hml), scl, hmu, bn_rn_trace _ _ _ _ _ hnL hc, bn_rn_mul _ _ _ _ _ hn, bn_out, bn_rn_mul _ _ _ _ _ hn]
    rw [show bn_S k s - L + L = bn_mn k + ((bn_S k s - bn_mn k).toNat : Int) by omega]
  refine ⟨?_, ?_, ?_, ?_⟩
  · rw [uadd, eadd, vadd]
    rcases Nat.eq_zero_or_pos (bn_M k g * 2^d + bn_M k s) with q | q
    · rw [q]; simp [bn_tr]
    · have h1 := bn_tr_pos (d := d) (Nat.mul_pos q hLp)
      have h2 := Nat.mul_pos q tp
      omega
  · rw [usub, esub]
    have : (bn_V k g = bn_V k s) ↔ (bn_M k g * 2^d - bn_M k s) * 2^(bn_S k s - bn_mn k).toNat = 0 := by rw [← vsub]; omega
    rw [this]
    rcases Nat.eq_zero_or_pos (bn_M k g * 2^d - bn_M k s) with q | q
    · rw [q]; simp [bn_tr]
    · have h1 := bn_tr_pos (d := d) (Nat.mul_pos q hLp)
      have h2 := Nat.mul_pos q tp
      omega
  · intro hne neg
    rw [vadd] at hne ⊢
    have q : 0 < bn_M k g * 2^d + bn_M k s := by
      rcases Nat.eq_zero_or_pos (bn_M k g * 2^d + bn_M k s) with q | q
      · rw [q, Nat.zero_mul] at hne; exact absurd rfl hne
      · exact q
    apply main _ _ _ q
    · rw [uadd, eadd]
    · rw [uadd, hadd]; omega
    · rcases hlong (bn_M k g * 2^d + bn_M k s) with w | w
      · exact Or.inl w
      · right
        have hb := hbig w
        rw [← eadd]
        have h60 : 2^(60 + d) ≤ bn_M k g * 2^L * 2^d + bn_M k s * 2^L := by rw [Nat.pow_add]; omega
        have := bn_lt_len.mpr h60
        omega
  · intro hne neg
    have hne' : bn_V k g - bn_V k s ≠ 0 := by omega
    rw [vsub] at hne' ⊢
    have q : 0 < bn_M k g * 2^d - bn_M k s := by
      rcases Nat.eq_zero_or_pos (bn_M k g * 2^d - bn_M k s) with q | q
      · rw [q, Nat.zero_mul] at hne'; exact absurd rfl hne'
      · exact q
    apply main _ _ _ q
    · rw [usub, esub]
    · rw [usub, hsub]; omega
    · rcases hlong (bn_M k g * 2^d - bn_M k s) with w | w
      · exact Or.inl w
      · right
        have hb := hbig w
        rw [← esub]
        have h60 : 2^(60 + d) ≤ bn_M k g * 2^L * 2^d - bn_M k s * 2^L := by rw [Nat.pow_add]; omega
        have := bn_lt_len.mpr h60
        omega

theorem bn_rounded_zero (k : Nat) (neg : Int32) (e : Int32) : fFormat_rounded k neg 0 e = fFormat_signed k neg 0 := by
  unfold fFormat_rounded; rw [if_pos rfl]
theorem bn_mag_lt_iff (k : Nat) (x y : Int64) (hx : bn_ok k x) (hy : bn_ok k y) : fFormat_magnitude k x < fFormat_magnitude k y ↔ bn_mag k x < bn_mag k y := by
  have h1 := bn_magnitude k x hx
  have h2 := bn_magnitude k y hy
  have := bn_mag_lt63 k x
  have := bn_mag_lt63 k y
  rw [bn_lt (by omega) (by omega), h1, h2]
theorem bn_V_lt_iff (k : Nat) (x y : Int64) : bn_V k x < bn_V k y ↔ bn_mag k x < bn_mag k y := by
  constructor
  · intro h
    rcases Nat.lt_or_ge (bn_mag k x) (bn_mag k y) with q | q
    · exact q
    · have := bn_V_mono q; omega
  · intro h
    have h1 := bn_V_mono (Nat.le_of_lt h)
    rcases Nat.lt_or_eq_of_le h1 with q | q
    · exact q
    · have := bn_V_eq q; omega
def bn_sum (k : Nat) (x y : Int64) : Int64 :=
  if fFormat_isNegative k x = fFormat_isNegative k y then
    (if bn_V k x + bn_V k y = 0 then fFormat_signed k (fFormat_isNegative k x) 0 else bn_out k (fFormat_isNegative k x) (bn_V k x + bn_V k y) (bn_mn k))
  else (if bn_V k x = bn_V k y then fFormat_signed k 0 0
    else (if bn_V k x < bn_V k y then bn_out k (fFormat_isNegative k y) (bn_V k y - bn_V k x) (bn_mn k) else bn_out k (fFormat_isNegative k x) (bn_V k x - bn_V k y) (bn_mn k)))
theorem bn_neg01 (k : Nat) (x : Int64) : fFormat_isNegative k x = 0 ∨ fFormat_isNegative k x = 1 := by
  unfold fFormat_isNegative; split
  · exact Or.inl rfl
  · exact Or.inr rfl
theorem bn_sum_fin (k : Nat) (x y : Int64) (hx : bn_ok k x) (hy : bn_ok k y) (x1 : fFormat_isInfinite k x = 0) (y1 : fFormat_isInfinite k y = 0) :
    fFloating_sum k x y = bn_sum k x y := by
  unfold fFloating_sum
  rw [if_pos x1, if_pos y1]
  have d10 : ((1 : Int32) = 0) = False := by decide
  unfold bn_sum
  by_cases hm : fFormat_magnitude k x < fFormat_magnitude k y
  · rw [if_pos hm]
    rw [bn_mag_lt_iff k x y hx hy] at hm
    have hV := (bn_V_lt_iff k x y).mpr hm
    obtain ⟨h1, h2, h3, h4⟩ := bn_sum_rows k y x hy hx (Nat.le_of_lt hm)
    simp only [fFloating_sum_42, fFloating_sum_54, fFloating_sum_66, fFloating_sum_77, fFloating_sum_88, fFloating_sum_115, fFloating_sum_133, fFloating_sum_153, fFloating_sum_155, fFloating_sum_179, fFloating_sum_189, fFloating_sum_191, if_true, d10, if_false]
    generalize bn_shl (fFormat_significand k y) (62 - fm_places k) = G at *
    generalize fFloating_shiftedWithTrace (bn_shl (fFormat_significand k x) (62 - fm_places k)) (fFormat_scale k y - fFormat_scale k x) = R at *
    rw [← bn_u_zero] at h1 h2
    by_cases hs : fFormat_isNegative k x = fFormat_isNegative k y
    · have g1 : ¬ G + R = 0 := fun w => by rw [h1] at w; omega
      rw [if_pos hs, if_pos hs, if_neg g1, if_neg (show ¬ bn_V k x + bn_V k y = 0 by omega), h3 (by omega), Nat.add_comm, hs]
    · have g1 : ¬ G - R = 0 := fun w => by rw [h2] at w; omega
      rw [if_neg hs, if_neg hs, if_neg g1, if_neg (show ¬ bn_V k x = bn_V k y by omega), if_pos hV, h4 (by omega)]
  · rw [if_neg hm]
    rw [bn_mag_lt_iff k x y hx hy] at hm
    have hV : bn_V k y ≤ bn_V k x := bn_V_mono (by omega)
    obtain ⟨h1, h2, h3, h4⟩ := bn_sum_rows k x y hx hy (by omega)
    simp only [fFloating_sum_42, fFloating_sum_54, fFloating_sum_66, fFloating_sum_77, fFloating_sum_88, fFloating_sum_115, fFloating_sum_133, fFloating_sum_153, fFloating_sum_155, fFloating_sum_179, fFloating_sum_189, fFloating_sum_191, if_true, d10, if_false]
    generalize bn_shl (fFormat_significand k x) (62 - fm_places k) = G at *
    generalize fFloating_shiftedWithTrace (bn_shl (fFormat_significand k y) (62 - fm_places k)) (fFormat_scale k x - fFormat_scale k y) = R at *
    rw [← bn_u_zero] at h1 h2
    by_cases hs : fFormat_isNegative k x = fFormat_isNegative k y
    · rw [if_pos hs, if_pos hs]
      by_cases h0 : bn_V k x + bn_V k y = 0
      · have g := h1.mpr h0
        rw [if_pos g, g, if_pos h0]
        rcases bn_neg01 k x with w | w
        · rw [w, if_pos rfl, bn_rounded_zero]
        · rw [w, if_neg (by decide), bn_rounded_zero]
      · rw [if_neg (fun w => h0 (h1.mp w)), if_neg h0, h3 h0]
    · rw [if_neg hs, if_neg hs]
      by_cases h0 : bn_V k x = bn_V k y
      · have g := h2.mpr h0
        rw [if_pos g, g, if_pos h0]
        rw [bn_rounded_zero]
      · rw [if_neg (fun w => h0 (h2.mp w)), if_neg h0, if_neg (by omega), h4 h0]
end
section
theorem bn_flip (x : Int64) : (x ^^^ (-9223372036854775808)).toInt = (bn_u x : Int) - 2^63 := by
  have h := bn_u_lt x
  have e : bn_u (x ^^^ (-9223372036854775808)) = bn_u x ^^^ 2^63 := by rw [bn_u_xor]; rfl
  have e2 : bn_u x ^^^ 2^63 = (bn_u x + 2^63) % 2^64 := by
    rcases Nat.lt_or_ge (bn_u x) (2^63) with q | q
    · have h1 := Nat.two_pow_add_eq_or_of_lt (i := 63) q 1
      rw [Nat.mul_one] at h1
      rw [Nat.mod_eq_of_lt (by omega), Nat.add_comm, h1]
      apply Nat.eq_of_testBit_eq
      intro i
      rw [Nat.testBit_xor, Nat.testBit_or, Nat.testBit_two_pow]
      by_cases w : 63 = i
      · subst w; rw [Nat.testBit_lt_two_pow q]; rfl
      · simp [w]
    · obtain ⟨b, hb⟩ : ∃ b, bn_u x = 2^63 + b := ⟨bn_u x - 2^63, by omega⟩
      have hbl : b < 2^63 := by omega
      have h1 := Nat.two_pow_add_eq_or_of_lt (i := 63) hbl 1
      rw [Nat.mul_one] at h1
      rw [hb]
      have : (2^63 + b + 2^63) % 2^64 = b := by omega
      rw [this, h1]
      apply Nat.eq_of_testBit_eq
      intro i
      rw [Nat.testBit_xor, Nat.testBit_or, Nat.testBit_two_pow]
      by_cases w : 63 = i
      · subst w; rw [Nat.testBit_lt_two_pow hbl]; rfl
      · simp [w]
  rw [bn_s_u, e, e2]
  split <;> omega
theorem bn_cmp (x y : Int64) : fLong_compare x y = if x.toInt < y.toInt then -1 else if x.toInt = y.toInt then 0 else 1 := by
  unfold fLong_compare
  have h1 : (y ≤ x) ↔ y.toInt ≤ x.toInt := Int64.le_iff_toInt_le
  have h2 : (x = y) ↔ x.toInt = y.toInt := Int64.toInt_inj.symm
  simp only [h1, h2]
  by_cases a : x.toInt < y.toInt
  · rw [if_neg (by omega), if_pos a]
  · rw [if_pos (by omega), if_neg a]
theorem bn_order (x y : Int64) : fWhole_orderWithoutSign x y = if bn_u x < bn_u y then -1 else if bn_u x = bn_u y then 0 else 1 := by
  unfold fWhole_orderWithoutSign
  rw [bn_cmp, bn_flip, bn_flip]
  have h1 : ((bn_u x : Int) - 2^63 < (bn_u y : Int) - 2^63) ↔ bn_u x < bn_u y := by omega
  have h2 : ((bn_u x : Int) - 2^63 = (bn_u y : Int) - 2^63) ↔ bn_u x = bn_u y := by omega
  simp only [h1, h2]
theorem bn_order_ge (x y : Int64) : (0 ≤ fWhole_orderWithoutSign x y) ↔ bn_u y ≤ bn_u x := by
  rw [bn_order]
  by_cases a : bn_u x < bn_u y
  · rw [if_pos a]
    exact ⟨fun w => absurd w (by decide), fun w => by omega⟩
  · rw [if_neg a]
    split
    · exact ⟨fun _ => by omega, fun _ => by decide⟩
    · exact ⟨fun _ => by omega, fun _ => by decide⟩
theorem bn_order_gt (x y : Int64) : (0 < fWhole_orderWithoutSign x y) ↔ bn_u y < bn_u x := by
  rw [bn_order]
  by_cases a : bn_u x < bn_u y
  · rw [if_pos a]
    exact ⟨fun w => absurd w (by decide), fun w => by omega⟩
  · rw [if_neg a]
    split
    · exact ⟨fun w => absurd w (by decide), fun _ => by omega⟩
    · exact ⟨fun _ => by omega, fun _ => by decide⟩
theorem bn_div_u {x y : Int64} (hx : bn_u x < 2^63) (hy : bn_u y < 2^63) : bn_u (x / y) = bn_u x / bn_u y := by
  have hne : x ≠ Int64.minValue := by
    intro q; rw [q] at hx; revert hx; decide
  have h := Int64.toInt_div_of_ne_left x y hne
  rw [bn_s_pos hx, bn_s_pos hy] at h
  rw [show ((bn_u x : Int).tdiv (bn_u y : Int)) = ((bn_u x / bn_u y : Nat) : Int) from rfl] at h
  have h2 := bn_s_u (x / y)
  have h3 : bn_u x / bn_u y ≤ bn_u x := Nat.div_le_self _ _
  have h4 := bn_u_lt (x / y)
  generalize bn_u x / bn_u y = Q at *
  rw [h] at h2
  split at h2 <;> omega
theorem bn_quoU (x y : Int64) (hy : y ≠ 0) : bn_u (fWhole_quotientWithoutSign x y) = bn_u x / bn_u y := by
  have hx := bn_u_lt x
  have hyl := bn_u_lt y
  have hy0 : bn_u y ≠ 0 := fun q => hy (bn_u_zero.mpr q)
  have hpos : (0 < y) ↔ bn_u y < 2^63 := by
    rw [Int64.lt_iff_toInt_lt, bn_s_u y]
    show (0 : Int) < _ ↔ _
    split <;> omega
  unfold fWhole_quotientWithoutSign
  by_cases q : bn_u y < 2^63
  · rw [if_pos (hpos.mpr q)]
    unfold fWhole_quotientWithoutSign_31
    have z1 : (1 : Int32).toInt = (1 : Nat) := rfl
    have s1 : bn_u (bn_shr x 1) = bn_u x / 2 := by rw [bn_shr_u z1 (by decide)]
    have s2 : bn_u (bn_shr x 1 / y) = bn_u x / 2 / bn_u y := by rw [bn_div_u (by omega) q, s1]
    have hle : bn_u x / 2 / bn_u y ≤ bn_u x / 2 := Nat.div_le_self _ _
    have s3 : bn_u (bn_shr x 1 / y * 2) = bn_u x / 2 / bn_u y * 2 := by
      rw [bn_mul_u (by rw [s2]; show _ * 2 < _; omega), s2]; rfl
    generalize bn_shr x 1 / y * 2 = Q at *
    have h1 := Nat.div_add_mod (bn_u x / 2) (bn_u y)
    have h2 := Nat.mod_lt (bn_u x / 2) (Nat.pos_of_ne_zero hy0)
    generalize hA : bn_u x / 2 / bn_u y = A at *
    generalize hR : bn_u x / 2 % bn_u y = R at *
    have hYA : bn_u y * A ≤ bn_u x / 2 := by omega
    have s4 : bn_u (Q * y) = 2 * (bn_u y * A) := by
      have : A * 2 * bn_u y = 2 * (bn_u y * A) := by rw [Nat.mul_comm A 2, Nat.mul_assoc, Nat.mul_comm A]
      rw [bn_mul_u] <;> rw [s3, this]; omega
    have s5 : bn_u (x - Q * y) = bn_u x - 2 * (bn_u y * A) := by
      rw [bn_sub_u] <;> rw [s4]; omega
    have hres : bn_u x - 2 * (bn_u y * A) < 2 * bn_u y := by omega
    have hx2 : bn_u x = bn_u y * (2 * A) + (bn_u x - 2 * (bn_u y * A)) := by
      rw [Nat.mul_left_comm]; omega
    have hdiv : bn_u x / bn_u y = 2 * A + (bn_u x - 2 * (bn_u y * A)) / bn_u y := by
      conv => lhs; rw [hx2]
      rw [Nat.mul_add_div (Nat.pos_of_ne_zero hy0)]
    by_cases g : bn_u y ≤ bn_u x - 2 * (bn_u y * A)
    · rw [if_pos ((bn_order_ge _ _).mpr (by rw [s5]; exact g))]
      have : (bn_u x - 2 * (bn_u y * A)) / bn_u y = 1 := by
        apply Nat.div_eq_of_lt_le <;> omega
      rw [bn_add_u] <;> rw [s3, show bn_u 1 = 1 from rfl] <;> omega
    · rw [if_neg (fun w => g (by have := (bn_order_ge _ _).mp w; rw [s5] at this; exact this))]
      have : (bn_u x - 2 * (bn_u y * A)) / bn_u y = 0 := Nat.div_eq_of_lt (by omega)
      omega
  · rw [if_neg (fun w => q (hpos.mp w))]
    by_cases g : bn_u y ≤ bn_u x
    · rw [if_pos ((bn_order_ge _ _).mpr g)]
      show 1 = _
      symm; apply Nat.div_eq_of_lt_le <;> omega
    · rw [if_neg (fun w => g ((bn_order_ge _ _).mp w))]
      show 0 = _
      rw [Nat.div_eq_of_lt (by omega)]

def bn_tz (k : Nat) (x : Int64) : Nat := if 0 ≤ bn_S k x then bn_M k x * 2^(bn_S k x).toNat else bn_M k x / 2^(-bn_S k x).toNat
theorem bn_wholePart (m : Int64) (s : Int32) (hm : bn_u m < 2^53) (h : 0 ≤ s.toInt → bn_u m * 2^s.toInt.toNat < 2^64 ∧ s.toInt < 64) (hs : -2000 ≤ s.toInt) :
    bn_u (fConversions_wholePart m s) = if 0 ≤ s.toInt then bn_u m * 2^s.toInt.toNat else bn_u m / 2^(-s.toInt).toNat := by
  have z0 : (0 : Int32).toInt = 0 := rfl
  have z63 : (-63 : Int32).toInt = -63 := rfl
  unfold fConversions_wholePart
  by_cases q : s < 0
  · rw [if_pos q]
    rw [Int32.lt_iff_toInt_lt, z0] at q
    rw [if_neg (show ¬ 0 ≤ s.toInt by omega)]
    by_cases q2 : (-63 : Int32) ≤ s
    · rw [if_pos q2]
      rw [Int32.le_iff_toInt_le, z63] at q2
      exact bn_shr_u (by rw [bn_i_neg] <;> omega) (by omega)
    · rw [if_neg q2]
      rw [Int32.le_iff_toInt_le, z63] at q2
      have : 2^53 ≤ 2^(-s.toInt).toNat := Nat.pow_le_pow_right (by decide) (by omega)
      rw [Nat.div_eq_of_lt (by omega)]; rfl
  · rw [if_neg q]
    rw [Int32.lt_iff_toInt_lt, z0] at q
    have := h (by omega)
    rw [if_pos (show 0 ≤ s.toInt by omega)]
    exact bn_shl_u (by omega) (by omega) (by omega)
theorem bn_M_zero (k : Nat) (x : Int64) (h : bn_M k x = 0) : bn_S k x = bn_mn k := by
  have hp := Nat.two_pow_pos (bn_P k - 1)
  unfold bn_M at h
  split at h
  · next q => unfold bn_S; rw [q]; omega
  · omega
theorem bn_fits (k : Nat) (x lim : Int64) (hx : bn_ok k x) : fConversions_fits k x lim = (if bn_tz k x ≤ bn_u lim then 1 else 0) ∧ (bn_tz k x < 2^64 → bn_u (fConversions_wholePart (fFormat_significand k x) (fFormat_scale k x)) = bn_tz k x) := by
  have mx := bn_signif k x hx
  have sx := bn_scale k x hx
  have mxl := bn_M_lt53 k x
  have sx1 := bn_S_ge k x
  have sx2 := bn_S_le k x
  have hmn := bn_mn_le k
  have hz := bn_M_zero k x
  have hlen := bn_length (fFormat_significand k x)
  rw [mx] at hlen
  have hL : bn_len (bn_M k x) ≤ 53 := bn_len_le.mpr mxl
  have z64 : (64 : Int32).toInt = 64 := rfl
  have h64 : (64 - fWhole_length (fFormat_significand k x)).toInt = 64 - bn_len (bn_M k x) := by
    rw [bn_i_sub] <;> rw [hlen, bn_i_ofNat (by omega), z64]; omega
  have hlim := bn_u_lt lim
  have hfit : (fFormat_scale k x ≤ 64 - fWhole_length (fFormat_significand k x)) ↔ bn_S k x ≤ 64 - bn_len (bn_M k x) := by
    rw [Int32.le_iff_toInt_le, sx, h64]
  have hsm : 0 ≤ bn_S k x → bn_S k x ≤ 64 - bn_len (bn_M k x) → bn_M k x * 2^(bn_S k x).toNat < 2^64 ∧ bn_S k x < 64 := by
    intro h0 h1
    have hM : 0 < bn_M k x := by
      rcases Nat.eq_zero_or_pos (bn_M k x) with q | q
      · have := hz q; omega
      · exact q
    have := bn_len_mul hM (bn_S k x).toNat
    have := bn_len_pos hM
    exact ⟨bn_len_le.mp (by omega), by omega⟩
  have hbig : ¬ bn_S k x ≤ 64 - bn_len (bn_M k x) → 2^64 ≤ bn_tz k x := by
    intro h1
    have hM : 0 < bn_M k x := by
      rcases Nat.eq_zero_or_pos (bn_M k x) with q | q
      · have := hz q; omega
      · exact q
    have := bn_len_mul hM (bn_S k x).toNat
    unfold bn_tz
    rw [if_pos (by omega)]
    exact bn_lt_len.mp (by omega)
  have hwp : bn_S k x ≤ 64 - bn_len (bn_M k x) → bn_u (fConversions_wholePart (fFormat_significand k x) (fFormat_scale k x)) = bn_tz k x := by
    intro h1
    rw [bn_wholePart _ _ (by omega) (by rw [sx, mx]; exact fun h0 => hsm h0 h1) (by omega), sx, mx]; rfl
  refine ⟨?_, fun hlt => hwp ?_⟩
  · unfold fConversions_fits fConversions_fits_7 fConversions_fits_14
    by_cases q : bn_S k x ≤ 64 - bn_len (bn_M k x)
    · rw [if_pos (hfit.mpr q)]
      have ho := bn_order_gt (fConversions_wholePart (fFormat_significand k x) (fFormat_scale k x)) lim
      rw [hwp q] at ho
      simp only [ho]
      by_cases g : bn_tz k x ≤ bn_u lim
      · rw [if_neg (by omega), if_pos g]
      · rw [if_pos (by omega), if_neg g]
    · have := hbig q
      rw [if_neg (fun w => q (hfit.mp w)), if_neg (by omega)]
  · rcases Classical.em (bn_S k x ≤ 64 - bn_len (bn_M k x)) with q | q
    · exact q
    · have := hbig q; omega
def bn_wn (place : Int32) (neg : Int32) (m d : Nat) : Nat :=
  if place = 5 then bn_rne m d else if m % 2^d = 0 then m / 2^d
    else if (place = 2 ∧ neg = 0) ∨ (place = 3 ∧ neg ≠ 0) then m / 2^d + 1 else m / 2^d
theorem bn_whole (place : Int32) (k : Nat) (x : Int64) (hx : bn_ok k x) : fFloating_wholeNumber place k x =
    if 0 ≤ bn_S k x then x else (if bn_wn place (fFormat_isNegative k x) (bn_M k x) (-bn_S k x).toNat = 0 then fFormat_signed k (fFormat_isNegative k x) 0
      else bn_out k (fFormat_isNegative k x) (bn_wn place (fFormat_isNegative k x) (bn_M k x) (-bn_S k x).toNat) 0) := by
  have mx := bn_signif k x hx
  have sx := bn_scale k x hx
  have mxl := bn_M_lt53 k x
  have sx1 := bn_S_ge k x
  have sx2 := bn_S_le k x
  have hmn := bn_mn_le k
  have z0 : (0 : Int32).toInt = 0 := rfl
  have z63 : (63 : Int32).toInt = 63 := rfl
  have hneg : (-(fFormat_scale k x)).toInt = -bn_S k x := by rw [bn_i_neg] <;> omega
  unfold fFloating_wholeNumber fFloating_wholeNumber_8
  have hc : ((0 : Int32) < -(fFormat_scale k x)) ↔ ¬ 0 ≤ bn_S k x := by
    rw [Int32.lt_iff_toInt_lt, hneg, z0]; omega
  by_cases q : 0 ≤ bn_S k x
  · rw [if_neg (fun w => (hc.mp w) q), if_pos q]
  · rw [if_pos (hc.mpr q), if_neg q]
    unfold fFloating_wholeNumber_22 fFloating_wholeNumber_29
    obtain ⟨D, hD⟩ : ∃ D : Nat, -bn_S k x = D := ⟨(-bn_S k x).toNat, by omega⟩
    rw [hD] at hneg
    rw [hD]
    show _ = if bn_wn _ _ _ D = 0 then _ else bn_out k _ (bn_wn _ _ _ D) 0
    generalize -(fFormat_scale k x) = drop at *
    generalize fFormat_isNegative k x = neg at *
    generalize fFormat_significand k x = sig at *
    have fin : ∀ (mm : Int64) (n : Nat), bn_u mm = n → n < 2^63 → fFormat_rounded k neg mm 0 = if n = 0 then fFormat_signed k neg 0 else bn_out k neg n 0 := by
      intro mm n h1 h2
      by_cases w : n = 0
      · rw [if_pos w]
        have : mm = 0 := bn_u_zero.mpr (by omega)
        rw [this, bn_rounded_zero]
      · rw [if_neg w, bn_rounded k neg mm 0 (fun e => by rw [bn_u_zero] at e; omega) (by rw [z0]; omega) (Or.inl (by omega)), h1]; rfl
    have hrl : bn_rne (bn_M k x) D < 2^63 := by
      have := @bn_rne_le (bn_M k x) D
      have := Nat.div_le_self (bn_M k x) (2^D)
      omega
    by_cases p5 : place = 5
    · rw [if_pos p5]
      have e : bn_wn place neg (bn_M k x) D = bn_rne (bn_M k x) D := by unfold bn_wn; rw [if_pos p5]
      rw [e]
      apply fin _ _ _ hrl
      by_cases w : D ≤ 63
      · rw [bn_nearest sig drop D hneg (by omega) w, mx]
      · rw [bn_nearest_high _ _ (by omega)]
        have hp : 2^64 ≤ 2^D := Nat.pow_le_pow_right (by decide) (by omega)
        show 0 = _
        unfold bn_rne
        rw [Nat.div_eq_of_lt (by omega), Nat.mod_eq_of_lt (by omega), if_neg (by omega)]
    · rw [if_neg p5]
      unfold fFloating_wholeNumber_58 fFloating_wholeNumber_65
      have hdr : (fMath_min drop 63).toInt = (min D 63 : Nat) := by rw [bn_i_min, hneg, z63]; omega
      have hq : bn_M k x / 2^(min D 63) = bn_M k x / 2^D ∧ (bn_M k x / 2^(min D 63) * 2^(min D 63) = bn_M k x ↔ bn_M k x % 2^D = 0) := by
        rcases Nat.le_total D 63 with w | w
        · rw [Nat.min_eq_left w]
          refine ⟨rfl, ?_⟩
          have := Nat.div_add_mod (bn_M k x) (2^D)
          rw [Nat.mul_comm] at this
          omega
        · rw [Nat.min_eq_right w]
          have hp : 2^63 ≤ 2^D := Nat.pow_le_pow_right (by decide) w
          rw [Nat.div_eq_of_lt (show bn_M k x < 2^63 by omega), Nat.div_eq_of_lt (show bn_M k x < 2^D by omega), Nat.mod_eq_of_lt (show bn_M k x < 2^D by omega)]
          refine ⟨rfl, ?_⟩
          omega
      have kp : bn_u (bn_shr sig (fMath_min drop 63)) = bn_M k x / 2^D := by
        rw [bn_shr_u hdr (by omega), mx]; exact hq.1
      have kp2 : (bn_shl (bn_shr sig (fMath_min drop 63)) (fMath_min drop 63) = sig) ↔ bn_M k x % 2^D = 0 := by
        have hle := Nat.div_mul_le_self (bn_M k x) (2^(min D 63))
        rw [bn_u_eq, bn_shl_u hdr (by omega)] <;> rw [kp, ← hq.1]
        · rw [mx]; exact hq.2
        · omega
      have hqd := Nat.div_le_self (bn_M k x) (2^D)
      have kp1 : bn_u (bn_shr sig (fMath_min drop 63) + 1) = bn_M k x / 2^D + 1 := by
        rw [bn_add_u] <;> rw [kp, show bn_u 1 = 1 from rfl]; omega
      generalize bn_shr sig (fMath_min drop 63) = kept at *
      simp only [kp2]
      simp only [fFloating_wholeNumber_81, fFloating_wholeNumber_93, fFloating_wholeNumber_103, fFloating_wholeNumber_107, fFloating_wholeNumber_108, fFloating_wholeNumber_130, fFloating_wholeNumber_132]
      have d10 : ((1 : Int32) = 0) = False := by decide
      simp only [d10, if_false, if_true]
      unfold bn_wn
      rw [if_neg p5]
      by_cases c0 : bn_M k x % 2^D = 0
      · rw [if_pos c0, if_pos c0]
        have := fin kept _ kp (by omega)
        rw [← this]
        split <;> split <;> first | rfl | (split <;> first | rfl | (split <;> rfl))
      · rw [if_neg c0, if_neg c0]
        have f1 := fin kept _ kp (by omega)
        have f2 := fin _ _ kp1 (by omega)
        by_cases p2 : place = 2
        · have p3 : ¬ place = 3 := by rw [p2]; decide
          rw [if_pos p2]
          by_cases n0 : neg = 0
          · rw [if_pos n0, if_pos (Or.inl ⟨p2, n0⟩), f2]
          · have nc : ¬ ((place = 2 ∧ neg = 0) ∨ (place = 3 ∧ neg ≠ 0)) := by rintro (⟨_, w⟩ | ⟨w, _⟩); exact n0 w; exact p3 w
            rw [if_neg n0, if_neg p3, if_neg nc, f1]
        · rw [if_neg p2]
          by_cases p3 : place = 3
          · rw [if_pos p3]
            by_cases n0 : neg = 0
            · have nc : ¬ ((place = 2 ∧ neg = 0) ∨ (place = 3 ∧ neg ≠ 0)) := by rintro (⟨w, _⟩ | ⟨_, w⟩); exact p2 w; exact w n0
              rw [if_pos n0, if_neg nc, f1]
            · rw [if_neg n0, if_pos (Or.inr ⟨p3, n0⟩), f2]
          · have nc : ¬ ((place = 2 ∧ neg = 0) ∨ (place = 3 ∧ neg ≠ 0)) := by rintro (⟨w, _⟩ | ⟨w, _⟩); exact p2 w; exact p3 w
            rw [if_neg p3, if_neg nc, f1]
end
section
def bn_pop : Nat → Nat → Nat
  | 0, _ => 0
  | n + 1, x => x % 2 + bn_pop n (x / 2)
theorem bn_pop_add (m n x : Nat) : bn_pop (m + n) x = bn_pop m x + bn_pop n (x / 2^m) := by
  induction m generalizing x with
  | zero => simp [bn_pop]
  | succ m ih =>
    rw [show m + 1 + n = (m + n) + 1 by omega]
    simp only [bn_pop]
    rw [ih, Nat.div_div_eq_div_mul, ← Nat.pow_succ', Nat.add_assoc]
theorem bn_pop_mod (m x : Nat) : bn_pop m (x % 2^m) = bn_pop m x := by
  induction m generalizing x with
  | zero => rfl
  | succ m ih =>
    simp only [bn_pop]
    rw [Nat.pow_succ', Nat.mod_mul, ← ih (x / 2)]
    congr 1
    · omega
    · congr 1; omega
def bn_by (f : Nat → Nat) : Nat → Nat → Nat
  | 0, _ => 0
  | n + 1, x => f (x % 256) + 256 * bn_by f n (x / 256)
def bn_mk (c : Nat) : Nat → Nat
  | 0 => 0
  | n + 1 => c + 256 * bn_mk c n
theorem bn_by_id (n x : Nat) (h : x < 256^n) : bn_by (fun b => b) n x = x := by
  induction n generalizing x with
  | zero => simp [bn_by]; omega
  | succ n ih =>
    simp only [bn_by]
    rw [ih (x / 256) (by rw [Nat.pow_succ] at h; omega)]; omega
theorem bn_by_sub (f g : Nat → Nat) (n x : Nat) (h : ∀ b, b < 256 → g b ≤ f b) : bn_by g n x ≤ bn_by f n x ∧ bn_by f n x - bn_by g n x = bn_by (fun b => f b - g b) n x := by
  induction n generalizing x with
  | zero => simp [bn_by]
  | succ n ih =>
    simp only [bn_by]
    have h1 := h (x % 256) (Nat.mod_lt _ (by decide))
    obtain ⟨h2, h3⟩ := ih (x / 256)
    refine ⟨by omega, ?_⟩
    rw [← h3]; omega
theorem bn_by_add (f g : Nat → Nat) (n x : Nat) : bn_by f n x + bn_by g n x = bn_by (fun b => f b + g b) n x := by
  induction n generalizing x with
  | zero => simp [bn_by]
  | succ n ih => simp only [bn_by]; rw [← ih]; omega
theorem bn_by_by (f g : Nat → Nat) (n x : Nat) (h : ∀ b, b < 256 → g b < 256) : bn_by f n (bn_by g n x) = bn_by (fun b => f (g b)) n x := by
  induction n generalizing x with
  | zero => rfl
  | succ n ih =>
    have h1 := h (x % 256) (Nat.mod_lt _ (by decide))
    simp only [bn_by]
    rw [← ih, show (g (x % 256) + 256 * bn_by g n (x / 256)) % 256 = g (x % 256) by omega, show (g (x % 256) + 256 * bn_by g n (x / 256)) / 256 = bn_by g n (x / 256) by omega]
theorem bn_by_congr (f g : Nat → Nat) (n x : Nat) (h : ∀ b, b < 256 → f b = g b) : bn_by f n x = bn_by g n x := by
  induction n generalizing x with
  | zero => rfl
  | succ n ih => simp only [bn_by]; rw [ih, h _ (Nat.mod_lt _ (by decide))]
theorem bn_by_lt (f : Nat → Nat) (n x : Nat) (h : ∀ b, b < 256 → f b < 256) : bn_by f n x < 256^n := by
  induction n generalizing x with
  | zero => simp [bn_by]
  | succ n ih =>
    simp only [bn_by]
    have h1 := h (x % 256) (Nat.mod_lt _ (by decide))
    have h2 := ih (x / 256)
    rw [Nat.pow_succ]; omega
theorem bn_and_split (a b : Nat) : a &&& b = (a % 256 &&& b % 256) + 256 * (a / 256 &&& b / 256) := by
  have h1 := Nat.div_add_mod (a &&& b) (2^8)
  rw [Nat.and_mod_two_pow, Nat.and_div_two_pow] at h1
  rw [← h1, Nat.add_comm]
theorem bn_and_low {a c k : Nat} (h : c < 2^k) : a &&& c = a % 2^k &&& c := by
  have h1 : (a &&& c) % 2^k = a &&& c := Nat.mod_eq_of_lt (Nat.lt_of_le_of_lt Nat.and_le_right h)
  rw [← h1, Nat.and_mod_two_pow, Nat.mod_eq_of_lt h]
theorem bn_by_mask (s c : Nat) (hs : s ≤ 8) (hc : c < 2^(8 - s)) (n x : Nat) : (x / 2^s) &&& bn_mk c n = bn_by (fun b => (b / 2^s) &&& c) n x := by
  induction n generalizing x with
  | zero => simp [bn_mk, bn_by]
  | succ n ih =>
    simp only [bn_mk, bn_by]
    have hc2 : c < 256 := Nat.lt_of_lt_of_le hc (Nat.pow_le_pow_right (show 0 < 2 by decide) (show 8 - s ≤ 8 by omega))
    rw [bn_and_split, show (c + 256 * bn_mk c n) % 256 = c by omega, show (c + 256 * bn_mk c n) / 256 = bn_mk c n by omega, ← ih]
    congr 1
    · rw [bn_and_low hc, bn_and_low (a := x % 256 / 2^s) hc]
      congr 1
      have e : (256 : Nat) = 2^s * 2^(8 - s) := by rw [← Nat.pow_add, show s + (8 - s) = 8 by omega]
      rw [Nat.mod_mod_of_dvd _ (by rw [show (256 : Nat) = 2^8 from rfl]; exact Nat.pow_dvd_pow 2 (by omega))]
      rw [e, Nat.mod_mul_right_div_self, Nat.mod_mod]
    · congr 2
      rw [Nat.div_div_eq_div_mul, Nat.div_div_eq_div_mul, Nat.mul_comm]
theorem bn_mk55 : bn_mk 0x55 8 = 6148914691236517205 := by decide
theorem bn_mk33 : bn_mk 0x33 8 = 3689348814741910323 := by decide
theorem bn_mk0f : bn_mk 0x0f 8 = 1085102592571150095 := by decide
theorem bn_by_nib (g : Nat → Nat) (hg : ∀ b, b < 256 → g b % 16 ≤ 4 ∧ g b / 16 ≤ 4) (n x : Nat) : (bn_by g n x + bn_by g n x / 16) &&& bn_mk 15 n = bn_by (fun b => (g b + g b / 16) % 16) n x := by
  induction n generalizing x with
  | zero => simp [bn_mk, bn_by]
  | succ n ih =>
    have h1 := hg (x % 256) (Nat.mod_lt _ (by decide))
    simp only [bn_mk, bn_by]
    have hnext : bn_by g n (x / 256) % 16 ≤ 4 := by
      cases n with
      | zero => simp [bn_by]
      | succ n =>
        have := hg (x / 256 % 256) (Nat.mod_lt _ (by decide))
        simp only [bn_by]; omega
    rw [← ih]
    generalize bn_by g n (x / 256) = Y at *
    generalize g (x % 256) = q at *
    rw [bn_and_split, show (15 + 256 * bn_mk 15 n) % 256 = 15 by omega, show (15 + 256 * bn_mk 15 n) / 256 = bn_mk 15 n by omega]
    congr 1
    · rw [show (15 : Nat) = 2^4 - 1 from rfl, bn_and_mask]; omega
    · congr 2; omega

theorem bn_u_l2i (x : Int64) : x.toInt32.toInt = if bn_u x % 2^32 < 2^31 then ((bn_u x % 2^32 : Nat) : Int) else ((bn_u x % 2^32 : Nat) : Int) - 2^32 := by
  rw [bn_v_s, bn_v_l2i]
def bn_t1 (b : Nat) : Nat := b - ((b / 2^1) &&& 0x55)
def bn_t2 (b : Nat) : Nat := ((b / 2^0) &&& 0x33) + ((b / 2^2) &&& 0x33)
theorem bn_t12 : ∀ b : Nat, b < 256 → ((b / 2^1) &&& 0x55) ≤ b ∧ bn_t1 b < 256 ∧ bn_t2 (bn_t1 b) < 256 ∧ bn_t2 (bn_t1 b) % 16 ≤ 4 ∧ bn_t2 (bn_t1 b) / 16 ≤ 4 ∧ (bn_t2 (bn_t1 b) + bn_t2 (bn_t1 b) / 16) % 16 = bn_pop 8 b := by decide +kernel
theorem bn_pop_le (n x : Nat) : bn_pop n x ≤ n := by
  induction n generalizing x with
  | zero => exact Nat.le_refl _
  | succ n ih => simp only [bn_pop]; have := ih (x / 2); omega
theorem bn_pop64 (x : Nat) : bn_pop 64 x = bn_pop 8 (x % 256) + (bn_pop 8 (x / 256 % 256) + (bn_pop 8 (x / 256 / 256 % 256) + (bn_pop 8 (x / 256 / 256 / 256 % 256) + (bn_pop 8 (x / 256 / 256 / 256 / 256 % 256) + (bn_pop 8 (x / 256 / 256 / 256 / 256 / 256 % 256) + (bn_pop 8 (x / 256 / 256 / 256 / 256 / 256 / 256 % 256) + bn_pop 8 (x / 256 / 256 / 256 / 256 / 256 / 256 / 256 % 256))))))) := by
  have h : ∀ n y, bn_pop (8 + n) y = bn_pop 8 (y % 256) + bn_pop n (y / 256) := fun n y => by
    rw [bn_pop_add, show (256 : Nat) = 2^8 from rfl, bn_pop_mod]
  have h0 : ∀ y, bn_pop 8 y = bn_pop 8 (y % 256) := fun y => by rw [show (256 : Nat) = 2^8 from rfl, bn_pop_mod]
  rw [show (64 : Nat) = 8 + (8 + (8 + (8 + (8 + (8 + (8 + 8)))))) from rfl, h, h, h, h, h, h, h]
  rw [h0 (x / 256 / 256 / 256 / 256 / 256 / 256 / 256)]
theorem bn_sum8 (b0 b1 b2 b3 b4 b5 b6 b7 : Nat) (h : b0 ≤ 8 ∧ b1 ≤ 8 ∧ b2 ≤ 8 ∧ b3 ≤ 8 ∧ b4 ≤ 8 ∧ b5 ≤ 8 ∧ b6 ≤ 8 ∧ b7 ≤ 8) (y : Nat)
    (hy : y = b0 + 256 * (b1 + 256 * (b2 + 256 * (b3 + 256 * (b4 + 256 * (b5 + 256 * (b6 + 256 * (b7 + 256 * 0)))))))) :
    y + y / 2^8 < 2^64 ∧ (y + y / 2^8) + (y + y / 2^8) / 2^16 < 2^64 ∧ ((y + y / 2^8) + (y + y / 2^8) / 2^16) + ((y + y / 2^8) + (y + y / 2^8) / 2^16) / 2^32 < 2^64 ∧
    (((y + y / 2^8) + (y + y / 2^8) / 2^16) + ((y + y / 2^8) + (y + y / 2^8) / 2^16) / 2^32) % 128 = b0 + (b1 + (b2 + (b3 + (b4 + (b5 + (b6 + b7)))))) := by
  obtain ⟨h0, h1, h2, h3, h4, h5, h6, h7⟩ := h
  have e1 : y / 2^8 = b1 + 256 * (b2 + 256 * (b3 + 256 * (b4 + 256 * (b5 + 256 * (b6 + 256 * b7))))) := by omega
  obtain ⟨z, hz⟩ : ∃ z, z = y + y / 2^8 := ⟨_, rfl⟩
  have e2 : z = (b0 + b1) + 256 * ((b1 + b2) + 256 * ((b2 + b3) + 256 * ((b3 + b4) + 256 * ((b4 + b5) + 256 * ((b5 + b6) + 256 * ((b6 + b7) + 256 * b7)))))) := by omega
  rw [← hz]
  clear hz hy e1
  have e3 : z / 2^16 = (b2 + b3) + 256 * ((b3 + b4) + 256 * ((b4 + b5) + 256 * ((b5 + b6) + 256 * ((b6 + b7) + 256 * b7)))) := by omega
  obtain ⟨w, hw⟩ : ∃ w, w = z + z / 2^16 := ⟨_, rfl⟩
  have e4 : w = (b0 + b1 + b2 + b3) + 256 * ((b1 + b2 + b3 + b4) + 256 * ((b2 + b3 + b4 + b5) + 256 * ((b3 + b4 + b5 + b6) + 256 * ((b4 + b5 + b6 + b7) + 256 * ((b5 + b6 + b7) + 256 * ((b6 + b7) + 256 * b7)))))) := by omega
  have hzl : z < 2^64 := by omega
  rw [← hw]
  clear hw e3 e2
  have e5 : w / 2^32 = (b4 + b5 + b6 + b7) + 256 * ((b5 + b6 + b7) + 256 * ((b6 + b7) + 256 * b7)) := by omega
  refine ⟨hzl, by omega, by omega, by omega⟩
theorem bn_by_top (f : Nat → Nat) (n x : Nat) (h : ∀ b, b < 256 → f b < 128) : bn_by f (n + 1) x < 128 * 256^n := by
  induction n generalizing x with
  | zero => have := h (x % 256) (Nat.mod_lt _ (by decide)); simp [bn_by]; omega
  | succ n ih =>
    have h1 := h (x % 256) (Nat.mod_lt _ (by decide))
    have h2 := ih (x / 256)
    rw [bn_by, Nat.pow_succ]; omega
theorem bn_bitCount (x : Int64) : fLong_bitCount x = Int32.ofNat (bn_pop 64 (bn_u x)) := by
  have hx := bn_u_lt x
  have z1 : (1 : Int32).toInt = (1 : Nat) := rfl
  have z2 : (2 : Int32).toInt = (2 : Nat) := rfl
  have z4 : (4 : Int32).toInt = (4 : Nat) := rfl
  have z8 : (8 : Int32).toInt = (8 : Nat) := rfl
  have z16 : (16 : Int32).toInt = (16 : Nat) := rfl
  have z32 : (32 : Int32).toInt = (32 : Nat) := rfl
  have k5 : bn_u 6148914691236517205 = bn_mk 0x55 8 := by decide
  have k3 : bn_u 3689348814741910323 = bn_mk 0x33 8 := by decide
  have kf : bn_u 1085102592571150095 = bn_mk 0x0f 8 := by decide
  simp only [fLong_bitCount, fLong_bitCount_10, fLong_bitCount_24, fLong_bitCount_34, fLong_bitCount_41, fLong_bitCount_48, fLong_bitCount_55]
  have e256 : (256 : Nat)^8 = 2^64 := by decide
  have s0 : bn_u (bn_shr x 1 &&& 6148914691236517205) = bn_by (fun b => (b / 2^1) &&& 0x55) 8 (bn_u x) := by
    rw [bn_u_and, bn_shr_u z1 (by decide), k5, bn_by_mask 1 0x55 (by decide) (by decide)]
  have hid := bn_by_id 8 (bn_u x) (by rw [e256]; exact hx)
  have hsub := bn_by_sub (fun b => b) (fun b => (b / 2^1) &&& 0x55) 8 (bn_u x) (fun b hb => (bn_t12 b hb).1)
  rw [hid] at hsub
  have s1 : bn_u (x - (bn_shr x 1 &&& 6148914691236517205)) = bn_by bn_t1 8 (bn_u x) := by
    rw [bn_sub_u] <;> rw [s0]
    · exact hsub.2
    · exact hsub.1
  generalize x - (bn_shr x 1 &&& 6148914691236517205) = y1 at *
  have m2 : bn_by (fun b => ((b / 2^0) &&& 0x33)) 8 (bn_u y1) + bn_by (fun b => ((b / 2^2) &&& 0x33)) 8 (bn_u y1) = bn_by (fun b => bn_t2 (bn_t1 b)) 8 (bn_u x) := by
    rw [bn_by_add, s1]
    exact bn_by_by bn_t2 bn_t1 8 (bn_u x) (fun b hb => (bn_t12 b hb).2.1)
  have l2 := bn_by_lt (fun b => bn_t2 (bn_t1 b)) 8 (bn_u x) (fun b hb => (bn_t12 b hb).2.2.1)
  rw [e256] at l2
  have s2a : bn_u (y1 &&& 3689348814741910323) = bn_by (fun b => ((b / 2^0) &&& 0x33)) 8 (bn_u y1) := by
    rw [bn_u_and, k3, ← bn_by_mask 0 0x33 (by decide) (by decide), Nat.pow_zero, Nat.div_one]
  have s2b : bn_u (bn_shr y1 2 &&& 3689348814741910323) = bn_by (fun b => ((b / 2^2) &&& 0x33)) 8 (bn_u y1) := by
    rw [bn_u_and, bn_shr_u z2 (by decide), k3, ← bn_by_mask 2 0x33 (by decide) (by decide)]
  have s2 : bn_u ((y1 &&& 3689348814741910323) + (bn_shr y1 2 &&& 3689348814741910323)) = bn_by (fun b => bn_t2 (bn_t1 b)) 8 (bn_u x) := by
    rw [bn_add_u] <;> rw [s2a, s2b, m2]; exact l2
  generalize (y1 &&& 3689348814741910323) + (bn_shr y1 2 &&& 3689348814741910323) = y2 at *
  have hn := bn_by_nib (fun b => bn_t2 (bn_t1 b)) (fun b hb => ⟨(bn_t12 b hb).2.2.2.1, (bn_t12 b hb).2.2.2.2.1⟩) 8 (bn_u x)
  rw [bn_by_congr _ (fun b => bn_pop 8 b) 8 (bn_u x) (fun b hb => (bn_t12 b hb).2.2.2.2.2)] at hn
  have s3 : bn_u ((y2 + bn_shr y2 4) &&& 1085102592571150095) = bn_by (fun b => bn_pop 8 b) 8 (bn_u x) := by
    rw [bn_u_and, kf, ← hn, ← s2]
    have hb : bn_u y2 + bn_u (bn_shr y2 4) < 2^64 := by
      rw [bn_shr_u z4 (by decide)]
      have : bn_u y2 < 2^63 := by
        rw [s2]
        have hh2 := bn_by_top (fun b => bn_t2 (bn_t1 b)) 7 (bn_u x) (fun b hb => by have h1 := (bn_t12 b hb).2.2.2.1; have h2 := (bn_t12 b hb).2.2.2.2.1; show bn_t2 (bn_t1 b) < 128; omega)
        rw [show 128 * 256^7 = 2^63 by decide] at hh2
        exact hh2
      omega
    rw [bn_add_u hb, bn_shr_u z4 (by decide)]
  generalize (y2 + bn_shr y2 4) &&& 1085102592571150095 = y3 at *
  have l8 : ∀ y, bn_pop 8 y ≤ 8 := fun y => bn_pop_le 8 y
  obtain ⟨c1, c2, c3, c4⟩ := bn_sum8 _ _ _ _ _ _ _ _ ⟨l8 (bn_u x % 256), l8 (bn_u x / 256 % 256), l8 (bn_u x / 256 / 256 % 256), l8 (bn_u x / 256 / 256 / 256 % 256), l8 (bn_u x / 256 / 256 / 256 / 256 % 256), l8 (bn_u x / 256 / 256 / 256 / 256 / 256 % 256), l8 (bn_u x / 256 / 256 / 256 / 256 / 256 / 256 % 256), l8 (bn_u x / 256 / 256 / 256 / 256 / 256 / 256 / 256 % 256)⟩ (bn_u y3) s3
  rw [← bn_pop64] at c4
  have p4 : bn_u (y3 + bn_shr y3 8) = bn_u y3 + bn_u y3 / 2^8 := by rw [bn_add_u] <;> rw [bn_shr_u z8 (by decide)]; exact c1
  generalize y3 + bn_shr y3 8 = y4 at *
  rw [← p4] at c2 c3 c4
  have p5 : bn_u (y4 + bn_shr y4 16) = bn_u y4 + bn_u y4 / 2^16 := by rw [bn_add_u] <;> rw [bn_shr_u z16 (by decide)]; exact c2
  generalize y4 + bn_shr y4 16 = y5 at *
  rw [← p5] at c3 c4
  have p6 : bn_u (y5 + bn_shr y5 32) = bn_u y5 + bn_u y5 / 2^32 := by rw [bn_add_u] <;> rw [bn_shr_u z32 (by decide)]; exact c3
  generalize y5 + bn_shr y5 32 = y6 at *
  rw [← p6] at c4
  have hle := bn_pop_le 64 (bn_u x)
  apply Int32.toInt_inj.mp
  rw [bn_i_ofNat (by omega), bn_v_s, bn_v_and, bn_v_l2i, show bn_v 127 = 2^7 - 1 from rfl, bn_and_mask]
  split <;> omega

theorem bn_odd_part (n : Nat) (h : 0 < n) : ∃ t a, n = 2^t * (2 * a + 1) := by
  induction n using Nat.strongRecOn with
  | _ n ih =>
    by_cases q : n % 2 = 1
    · exact ⟨0, n / 2, by rw [Nat.pow_zero]; omega⟩
    · obtain ⟨t, a, e⟩ := ih (n / 2) (by omega) (by omega)
      refine ⟨t + 1, a, ?_⟩
      rw [Nat.pow_succ', Nat.mul_assoc, ← e]; omega
theorem bn_low_bit (t a : Nat) (h : 2^t * (2 * a + 1) < 2^64) : 2^t * (2 * a + 1) &&& (2^64 - 2^t * (2 * a + 1)) = 2^t := by
  have ht : t < 64 := by
    rcases Nat.lt_or_ge t 64 with q | q
    · exact q
    · have h1 : 2^64 ≤ 2^t := Nat.pow_le_pow_right (by decide) q
      have h2 := Nat.mul_le_mul_left (2^t) (show 1 ≤ 2 * a + 1 by omega)
      omega
  have e64 : 2^64 = 2^t * (2 * 2^(63 - t)) := by rw [← Nat.pow_succ', ← Nat.pow_add]; congr 1; omega
  have ha : 2 * a + 1 < 2 * 2^(63 - t) := by
    rw [e64] at h; exact Nat.lt_of_mul_lt_mul_left h
  have e2 : 2^64 - 2^t * (2 * a + 1) = 2^t * (2 * (2^(63 - t) - (a + 1)) + 1) := by
    rw [e64, ← Nat.mul_sub]; congr 1; omega
  rw [e2]
  have hand : (2 * a + 1) &&& (2 * (2^(63 - t) - (a + 1)) + 1) = 1 := by
    apply Nat.eq_of_testBit_eq
    intro i
    rw [Nat.testBit_and]
    cases i with
    | zero => simp
    | succ i =>
      rw [Nat.testBit_succ, Nat.testBit_succ, Nat.testBit_succ, show (2 * a + 1) / 2 = a by omega, show (2 * (2^(63 - t) - (a + 1)) + 1) / 2 = 2^(63 - t) - (a + 1) by omega, Nat.testBit_two_pow_sub_succ (by omega)]
      cases a.testBit i <;> simp
  rw [Nat.mul_comm (2^t), Nat.mul_comm (2^t), ← Nat.shiftLeft_eq, ← Nat.shiftLeft_eq, ← Nat.shiftLeft_and_distrib, hand, Nat.shiftLeft_eq, Nat.one_mul]
theorem bn_low_zeros (x : Int64) (t a : Nat) (h : bn_u x = 2^t * (2 * a + 1)) : t < 64 ∧ fLong_bitCount ((x &&& -x) - 1) = Int32.ofNat t := by
  have hx := bn_u_lt x
  have ht : t < 64 := by
    rcases Nat.lt_or_ge t 64 with q | q
    · exact q
    · have h1 : 2^64 ≤ 2^t := Nat.pow_le_pow_right (by decide) q
      have h2 := Nat.mul_le_mul_left (2^t) (show 1 ≤ 2 * a + 1 by omega)
      omega
  refine ⟨ht, ?_⟩
  rw [← bn_bc_ones t (by omega)]
  congr 1
  apply bn_u_inj
  have hp := Nat.two_pow_pos t
  have hle : 2^t ≤ bn_u x := by rw [h]; have := Nat.mul_le_mul_left (2^t) (show 1 ≤ 2 * a + 1 by omega); omega
  have e1 : bn_u (x &&& -x) = 2^t := by
    rw [bn_u_and, bn_u_neg, Nat.mod_eq_of_lt (by omega), h]
    exact bn_low_bit t a (by omega)
  rw [bn_sub_u (by rw [e1]; show 1 ≤ _; omega), e1, bn_u_ofNat (by omega)]
  rfl

theorem bn_otherFormat (f t : Nat) (x : Int64) (hx : bn_ok f x) (h1 : fFormat_isNone f x = 0) (h2 : fFormat_isInfinite f x = 0) :
    fConversions_otherFormat f t x = if bn_mag f x = 0 then fFormat_signed t (fFormat_isNegative f x) 0 else bn_out t (fFormat_isNegative f x) (bn_M f x) (bn_S f x) := by
  unfold fConversions_otherFormat
  rw [if_pos h1, if_pos h2]
  have mx := bn_signif f x hx
  have sx := bn_scale f x hx
  have mxl := bn_M_lt53 f x
  have sx1 := bn_S_ge f x
  have sx2 := bn_S_le f x
  have hmn := bn_mn_le f
  by_cases q : bn_mag f x = 0
  · rw [if_pos q]
    have hM : bn_M f x = 0 := by
      unfold bn_M bn_ex; rw [q]; simp
    have : fFormat_significand f x = 0 := bn_u_zero.mpr (by omega)
    rw [this, bn_rounded_zero]
  · rw [if_neg q]
    have := bn_M_pos f x q
    rw [bn_rounded t _ _ _ (fun e => by rw [bn_u_zero] at e; omega) (by omega) (Or.inl (by omega)), mx, sx]; rfl
theorem bn_whole_rounded (k : Nat) (neg : Int32) (m : Int64) : fFormat_rounded k neg m 0 = if bn_u m = 0 then fFormat_signed k neg 0 else bn_out k neg (bn_u m) 0 := by
  by_cases q : bn_u m = 0
  · rw [if_pos q]
    have : m = 0 := bn_u_zero.mpr q
    rw [this, bn_rounded_zero]
  · rw [if_neg q]
    have hL : bn_len (bn_u m) ≤ 64 := bn_len_le.mpr (bn_u_lt m)
    have hmn := bn_mn_le k
    have hP := bn_P_le k
    have z0 : (0 : Int32).toInt = 0 := rfl
    rw [bn_rounded k _ _ _ (fun e => q (bn_u_zero.mp e)) (by rw [z0]; omega) (Or.inr (by rw [z0]; unfold bn_ns; omega))]; rfl
end
