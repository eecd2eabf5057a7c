section
def lw_okq (q : MethodName × Nat) : Prop := (q.1.cls ≠ "java/lang/invoke/MethodHandle" ∧ q.1.cls ≠ "java/lang/invoke/VarHandle") ∧ Cond.instantiable q.1.cls q.2 ∈ tables_1 ∧ Cond.privateMethod q.1 ∈ tables_1 ∧ Cond.instanceMethod q.1 ∈ tables_1
theorem lw_p0 : lw_okq (⟨"BitNumbers", "put", "(IJ)I"⟩, 4) := ⟨⟨by decide +kernel, by decide +kernel⟩, List.mem_of_getElem? (i := 18) (by decide +kernel), List.mem_of_getElem? (i := 45) (by decide +kernel), List.mem_of_getElem? (i := 46) (by decide +kernel)⟩
theorem lw_p1 : lw_okq (⟨"BitNumbers", "isThere", "(I)Z"⟩, 4) := ⟨⟨by decide +kernel, by decide +kernel⟩, List.mem_of_getElem? (i := 18) (by decide +kernel), List.mem_of_getElem? (i := 91) (by decide +kernel), List.mem_of_getElem? (i := 92) (by decide +kernel)⟩
theorem lw_p2 : lw_okq (⟨"java/lang/Throwable", "fillInStackTrace", "(I)Ljava/lang/Throwable;"⟩, 6) := ⟨⟨by decide +kernel, by decide +kernel⟩, List.mem_of_getElem? (i := 190) (by decide +kernel), List.mem_of_getElem? (i := 188) (by decide +kernel), List.mem_of_getElem? (i := 189) (by decide +kernel)⟩
theorem lw_p3 : lw_okq (⟨"BitNumbers", "areOnTop", "(II)Z"⟩, 4) := ⟨⟨by decide +kernel, by decide +kernel⟩, List.mem_of_getElem? (i := 18) (by decide +kernel), List.mem_of_getElem? (i := 245) (by decide +kernel), List.mem_of_getElem? (i := 246) (by decide +kernel)⟩
theorem lw_p4 : lw_okq (⟨"BitNumbersModel", "worked", "(IIJJ)J"⟩, 14) := ⟨⟨by decide +kernel, by decide +kernel⟩, List.mem_of_getElem? (i := 450) (by decide +kernel), List.mem_of_getElem? (i := 531) (by decide +kernel), List.mem_of_getElem? (i := 532) (by decide +kernel)⟩
theorem lw_p5 : lw_okq (⟨"BitNumbersModel", "whole", "(IIJJ)J"⟩, 14) := ⟨⟨by decide +kernel, by decide +kernel⟩, List.mem_of_getElem? (i := 450) (by decide +kernel), List.mem_of_getElem? (i := 587) (by decide +kernel), List.mem_of_getElem? (i := 588) (by decide +kernel)⟩
theorem lw_p6 : lw_okq (⟨"BitNumbersModel", "quotient", "(IIJJ)J"⟩, 14) := ⟨⟨by decide +kernel, by decide +kernel⟩, List.mem_of_getElem? (i := 450) (by decide +kernel), List.mem_of_getElem? (i := 603) (by decide +kernel), List.mem_of_getElem? (i := 604) (by decide +kernel)⟩
theorem lw_p7 : lw_okq (⟨"BitNumbersModel", "floating", "(IIJJ)J"⟩, 14) := ⟨⟨by decide +kernel, by decide +kernel⟩, List.mem_of_getElem? (i := 450) (by decide +kernel), List.mem_of_getElem? (i := 613) (by decide +kernel), List.mem_of_getElem? (i := 614) (by decide +kernel)⟩
theorem lw_p8 : lw_okq (⟨"BitNumbersModel", "root", "(IJ)J"⟩, 14) := ⟨⟨by decide +kernel, by decide +kernel⟩, List.mem_of_getElem? (i := 450) (by decide +kernel), List.mem_of_getElem? (i := 625) (by decide +kernel), List.mem_of_getElem? (i := 626) (by decide +kernel)⟩
theorem lw_p9 : lw_okq (⟨"BitNumbersModel", "rounded", "(IZI)J"⟩, 14) := ⟨⟨by decide +kernel, by decide +kernel⟩, List.mem_of_getElem? (i := 450) (by decide +kernel), List.mem_of_getElem? (i := 644) (by decide +kernel), List.mem_of_getElem? (i := 645) (by decide +kernel)⟩
theorem lw_p10 : lw_okq (⟨"BitNumbersModel", "order", "(JI)I"⟩, 14) := ⟨⟨by decide +kernel, by decide +kernel⟩, List.mem_of_getElem? (i := 450) (by decide +kernel), List.mem_of_getElem? (i := 648) (by decide +kernel), List.mem_of_getElem? (i := 649) (by decide +kernel)⟩
theorem lw_p11 : lw_okq (⟨"BitNumbersModel", "multiply", "(JJ)V"⟩, 14) := ⟨⟨by decide +kernel, by decide +kernel⟩, List.mem_of_getElem? (i := 450) (by decide +kernel), List.mem_of_getElem? (i := 656) (by decide +kernel), List.mem_of_getElem? (i := 657) (by decide +kernel)⟩
theorem lw_p12 : lw_okq (⟨"BitNumbersModel", "compareFactor", "(JI)I"⟩, 14) := ⟨⟨by decide +kernel, by decide +kernel⟩, List.mem_of_getElem? (i := 450) (by decide +kernel), List.mem_of_getElem? (i := 661) (by decide +kernel), List.mem_of_getElem? (i := 662) (by decide +kernel)⟩
theorem lw_p13 : lw_okq (⟨"BitNumbersModel", "shifted", "(II)I"⟩, 14) := ⟨⟨by decide +kernel, by decide +kernel⟩, List.mem_of_getElem? (i := 450) (by decide +kernel), List.mem_of_getElem? (i := 665) (by decide +kernel), List.mem_of_getElem? (i := 666) (by decide +kernel)⟩
theorem lw_p14 : lw_okq (⟨"BitNumbersModel", "sum", "(IJJ)J"⟩, 14) := ⟨⟨by decide +kernel, by decide +kernel⟩, List.mem_of_getElem? (i := 450) (by decide +kernel), List.mem_of_getElem? (i := 672) (by decide +kernel), List.mem_of_getElem? (i := 673) (by decide +kernel)⟩
theorem lw_p15 : lw_okq (⟨"BitNumbersModel", "compareRows", "()I"⟩, 14) := ⟨⟨by decide +kernel, by decide +kernel⟩, List.mem_of_getElem? (i := 450) (by decide +kernel), List.mem_of_getElem? (i := 679) (by decide +kernel), List.mem_of_getElem? (i := 680) (by decide +kernel)⟩
def lw_privs_1 : List (MethodName × Nat) := [(⟨"BitNumbers", "put", "(IJ)I"⟩, 4), (⟨"BitNumbers", "isThere", "(I)Z"⟩, 4), (⟨"java/lang/Throwable", "fillInStackTrace", "(I)Ljava/lang/Throwable;"⟩, 6), (⟨"BitNumbers", "areOnTop", "(II)Z"⟩, 4), (⟨"BitNumbersModel", "worked", "(IIJJ)J"⟩, 14), (⟨"BitNumbersModel", "whole", "(IIJJ)J"⟩, 14), (⟨"BitNumbersModel", "quotient", "(IIJJ)J"⟩, 14), (⟨"BitNumbersModel", "floating", "(IIJJ)J"⟩, 14), (⟨"BitNumbersModel", "root", "(IJ)J"⟩, 14), (⟨"BitNumbersModel", "rounded", "(IZI)J"⟩, 14), (⟨"BitNumbersModel", "order", "(JI)I"⟩, 14), (⟨"BitNumbersModel", "multiply", "(JJ)V"⟩, 14), (⟨"BitNumbersModel", "compareFactor", "(JI)I"⟩, 14), (⟨"BitNumbersModel", "shifted", "(II)I"⟩, 14), (⟨"BitNumbersModel", "sum", "(IJJ)J"⟩, 14), (⟨"BitNumbersModel", "compareRows", "()I"⟩, 14)]
theorem lw_r1 : ∀ q ∈ lw_privs_1, lw_okq q := List.forall_mem_cons.mpr ⟨lw_p0, List.forall_mem_cons.mpr ⟨lw_p1, List.forall_mem_cons.mpr ⟨lw_p2, List.forall_mem_cons.mpr ⟨lw_p3, List.forall_mem_cons.mpr ⟨lw_p4, List.forall_mem_cons.mpr ⟨lw_p5, List.forall_mem_cons.mpr ⟨lw_p6, List.forall_mem_cons.mpr ⟨lw_p7, List.forall_mem_cons.mpr ⟨lw_p8, List.forall_mem_cons.mpr ⟨lw_p9, List.forall_mem_cons.mpr ⟨lw_p10, List.forall_mem_cons.mpr ⟨lw_p11, List.forall_mem_cons.mpr ⟨lw_p12, List.forall_mem_cons.mpr ⟨lw_p13, List.forall_mem_cons.mpr ⟨lw_p14, List.forall_mem_cons.mpr ⟨lw_p15, fun _ h => absurd h List.not_mem_nil⟩⟩⟩⟩⟩⟩⟩⟩⟩⟩⟩⟩⟩⟩⟩⟩
theorem lw_p16 : lw_okq (⟨"BitNumbersModel", "addRows", "()V"⟩, 14) := ⟨⟨by decide +kernel, by decide +kernel⟩, List.mem_of_getElem? (i := 450) (by decide +kernel), List.mem_of_getElem? (i := 683) (by decide +kernel), List.mem_of_getElem? (i := 684) (by decide +kernel)⟩
theorem lw_p17 : lw_okq (⟨"BitNumbersModel", "subtractRows", "(Z)V"⟩, 14) := ⟨⟨by decide +kernel, by decide +kernel⟩, List.mem_of_getElem? (i := 450) (by decide +kernel), List.mem_of_getElem? (i := 687) (by decide +kernel), List.mem_of_getElem? (i := 688) (by decide +kernel)⟩
theorem lw_p18 : lw_okq (⟨"BitNumbersModel", "roundedRow", "(IZ)J"⟩, 14) := ⟨⟨by decide +kernel, by decide +kernel⟩, List.mem_of_getElem? (i := 450) (by decide +kernel), List.mem_of_getElem? (i := 691) (by decide +kernel), List.mem_of_getElem? (i := 692) (by decide +kernel)⟩
theorem lw_p19 : lw_okq (⟨"BitNumbersModel", "measure", "()V"⟩, 14) := ⟨⟨by decide +kernel, by decide +kernel⟩, List.mem_of_getElem? (i := 450) (by decide +kernel), List.mem_of_getElem? (i := 695) (by decide +kernel), List.mem_of_getElem? (i := 696) (by decide +kernel)⟩
theorem lw_p20 : lw_okq (⟨"BitNumbersModel", "highestOfRow", "()I"⟩, 14) := ⟨⟨by decide +kernel, by decide +kernel⟩, List.mem_of_getElem? (i := 450) (by decide +kernel), List.mem_of_getElem? (i := 699) (by decide +kernel), List.mem_of_getElem? (i := 700) (by decide +kernel)⟩
theorem lw_p21 : lw_okq (⟨"BitNumbersModel", "product", "(IJJ)J"⟩, 14) := ⟨⟨by decide +kernel, by decide +kernel⟩, List.mem_of_getElem? (i := 450) (by decide +kernel), List.mem_of_getElem? (i := 703) (by decide +kernel), List.mem_of_getElem? (i := 704) (by decide +kernel)⟩
theorem lw_p22 : lw_okq (⟨"BitNumbersModel", "clearRows", "()V"⟩, 14) := ⟨⟨by decide +kernel, by decide +kernel⟩, List.mem_of_getElem? (i := 450) (by decide +kernel), List.mem_of_getElem? (i := 707) (by decide +kernel), List.mem_of_getElem? (i := 708) (by decide +kernel)⟩
theorem lw_p23 : lw_okq (⟨"BitNumbersModel", "byQuotient", "(IJJ)J"⟩, 14) := ⟨⟨by decide +kernel, by decide +kernel⟩, List.mem_of_getElem? (i := 450) (by decide +kernel), List.mem_of_getElem? (i := 711) (by decide +kernel), List.mem_of_getElem? (i := 712) (by decide +kernel)⟩
theorem lw_p24 : lw_okq (⟨"BitNumbersModel", "towards", "(IIJ)J"⟩, 14) := ⟨⟨by decide +kernel, by decide +kernel⟩, List.mem_of_getElem? (i := 450) (by decide +kernel), List.mem_of_getElem? (i := 715) (by decide +kernel), List.mem_of_getElem? (i := 716) (by decide +kernel)⟩
theorem lw_p25 : lw_okq (⟨"BitNumbersModel", "valueOf", "(IZJI)J"⟩, 14) := ⟨⟨by decide +kernel, by decide +kernel⟩, List.mem_of_getElem? (i := 450) (by decide +kernel), List.mem_of_getElem? (i := 719) (by decide +kernel), List.mem_of_getElem? (i := 720) (by decide +kernel)⟩
theorem lw_p26 : lw_okq (⟨"BitNumbersModel", "convert", "(IJ)J"⟩, 14) := ⟨⟨by decide +kernel, by decide +kernel⟩, List.mem_of_getElem? (i := 450) (by decide +kernel), List.mem_of_getElem? (i := 723) (by decide +kernel), List.mem_of_getElem? (i := 724) (by decide +kernel)⟩
theorem lw_p27 : lw_okq (⟨"BitNumbersModel", "toWhole", "(IIZZJ)J"⟩, 14) := ⟨⟨by decide +kernel, by decide +kernel⟩, List.mem_of_getElem? (i := 450) (by decide +kernel), List.mem_of_getElem? (i := 727) (by decide +kernel), List.mem_of_getElem? (i := 728) (by decide +kernel)⟩
theorem lw_p28 : lw_okq (⟨"BitNumbersModel", "bound", "(ZIJ)J"⟩, 14) := ⟨⟨by decide +kernel, by decide +kernel⟩, List.mem_of_getElem? (i := 450) (by decide +kernel), List.mem_of_getElem? (i := 731) (by decide +kernel), List.mem_of_getElem? (i := 732) (by decide +kernel)⟩
theorem lw_p29 : lw_okq (⟨"BitNumbersModel", "between", "(IIJ)J"⟩, 14) := ⟨⟨by decide +kernel, by decide +kernel⟩, List.mem_of_getElem? (i := 450) (by decide +kernel), List.mem_of_getElem? (i := 735) (by decide +kernel), List.mem_of_getElem? (i := 736) (by decide +kernel)⟩
theorem lw_p30 : lw_okq (⟨"BitNumbersModel", "fromWhole", "(IIZJ)J"⟩, 14) := ⟨⟨by decide +kernel, by decide +kernel⟩, List.mem_of_getElem? (i := 450) (by decide +kernel), List.mem_of_getElem? (i := 739) (by decide +kernel), List.mem_of_getElem? (i := 740) (by decide +kernel)⟩
theorem lw_p31 : lw_okq (⟨"BitNumbersModel", "isThere", "(I)Z"⟩, 14) := ⟨⟨by decide +kernel, by decide +kernel⟩, List.mem_of_getElem? (i := 450) (by decide +kernel), List.mem_of_getElem? (i := 755) (by decide +kernel), List.mem_of_getElem? (i := 756) (by decide +kernel)⟩
def lw_privs_2 : List (MethodName × Nat) := [(⟨"BitNumbersModel", "addRows", "()V"⟩, 14), (⟨"BitNumbersModel", "subtractRows", "(Z)V"⟩, 14), (⟨"BitNumbersModel", "roundedRow", "(IZ)J"⟩, 14), (⟨"BitNumbersModel", "measure", "()V"⟩, 14), (⟨"BitNumbersModel", "highestOfRow", "()I"⟩, 14), (⟨"BitNumbersModel", "product", "(IJJ)J"⟩, 14), (⟨"BitNumbersModel", "clearRows", "()V"⟩, 14), (⟨"BitNumbersModel", "byQuotient", "(IJJ)J"⟩, 14), (⟨"BitNumbersModel", "towards", "(IIJ)J"⟩, 14), (⟨"BitNumbersModel", "valueOf", "(IZJI)J"⟩, 14), (⟨"BitNumbersModel", "convert", "(IJ)J"⟩, 14), (⟨"BitNumbersModel", "toWhole", "(IIZZJ)J"⟩, 14), (⟨"BitNumbersModel", "bound", "(ZIJ)J"⟩, 14), (⟨"BitNumbersModel", "between", "(IIJ)J"⟩, 14), (⟨"BitNumbersModel", "fromWhole", "(IIZJ)J"⟩, 14), (⟨"BitNumbersModel", "isThere", "(I)Z"⟩, 14)]
theorem lw_r2 : ∀ q ∈ lw_privs_2, lw_okq q := List.forall_mem_cons.mpr ⟨lw_p16, List.forall_mem_cons.mpr ⟨lw_p17, List.forall_mem_cons.mpr ⟨lw_p18, List.forall_mem_cons.mpr ⟨lw_p19, List.forall_mem_cons.mpr ⟨lw_p20, List.forall_mem_cons.mpr ⟨lw_p21, List.forall_mem_cons.mpr ⟨lw_p22, List.forall_mem_cons.mpr ⟨lw_p23, List.forall_mem_cons.mpr ⟨lw_p24, List.forall_mem_cons.mpr ⟨lw_p25, List.forall_mem_cons.mpr ⟨lw_p26, List.forall_mem_cons.mpr ⟨lw_p27, List.forall_mem_cons.mpr ⟨lw_p28, List.forall_mem_cons.mpr ⟨lw_p29, List.forall_mem_cons.mpr ⟨lw_p30, List.forall_mem_cons.mpr ⟨lw_p31, fun _ h => absurd h List.not_mem_nil⟩⟩⟩⟩⟩⟩⟩⟩⟩⟩⟩⟩⟩⟩⟩⟩
def lw_privs : List (MethodName × Nat) := lw_privs_1 ++ (lw_privs_2)
def lw_tbl : List Cond := k2_sels lw_privs ++ tables_1
theorem lw_privs_ok : ∀ q ∈ lw_privs, lw_okq q := by
  show ∀ q ∈ lw_privs_1 ++ (lw_privs_2), lw_okq q
  exact List.forall_mem_append.mpr ⟨lw_r1, lw_r2⟩
end
section
def bn_u (x : Int64) : Nat := x.toBitVec.toNat
theorem bn_u_lt (x : Int64) : bn_u x < 2^64 := x.toBitVec.isLt
theorem bn_u_inj {x y : Int64} (h : bn_u x = bn_u y) : x = y := by
  apply Int64.toBitVec_inj.mp
  exact BitVec.eq_of_toNat_eq h
theorem bn_s_u (x : Int64) : x.toInt = if bn_u x < 2^63 then (bn_u x : Int) else (bn_u x : Int) - 2^64 := by
  have h := BitVec.toInt_eq_toNat_cond x.toBitVec
  rw [Int64.toInt_toBitVec] at h
  rw [h]; unfold bn_u
  have := x.toBitVec.isLt
  split <;> split <;> omega
def bn_shl (x : Int64) (y : Int32) : Int64 := x <<< (y.toInt64 &&& 63)
def bn_shr (x : Int64) (y : Int32) : Int64 := (x.toUInt64 >>> (y.toInt64.toUInt64 &&& Int64.toUInt64 63)).toInt64
def bn_sar (x : Int64) (y : Int32) : Int64 := x >>> (y.toInt64 &&& 63)
theorem bn_u_i2l (y : Int32) : (bn_u y.toInt64 : Int) = y.toInt % 2^64 := by
  have h := bn_s_u y.toInt64
  rw [Int32.toInt_toInt64] at h
  have h1 := bn_u_lt y.toInt64
  split at h <;> omega
theorem bn_u_and63 (y : Int32) : bn_u (y.toInt64 &&& 63) = (y.toInt % 64).toNat := by
  have h : bn_u (y.toInt64 &&& 63) = bn_u y.toInt64 % 64 := by
    have : bn_u (y.toInt64 &&& 63) = bn_u y.toInt64 &&& (2^6 - 1) := by simp [bn_u]
    rw [this, Nat.and_two_pow_sub_one_eq_mod]
  have h2 := bn_u_i2l y
  omega
theorem bn_smod {b : BitVec 64} (h : b.toNat < 64) : (b.smod 64#64).toNat = b.toNat := by
  have hm : b.msb = false := by
    rw [BitVec.msb_eq_false_iff_two_mul_lt]; omega
  rw [BitVec.smod_eq, hm, show (64#64).msb = false by decide]
  show (b % 64#64).toNat = _
  rw [BitVec.toNat_umod]
  exact Nat.mod_eq_of_lt h
theorem bn_u_shl (x : Int64) (y : Int32) : bn_u (bn_shl x y) = bn_u x * 2^(y.toInt % 64).toNat % 2^64 := by
  have hk := bn_u_and63 y
  have hlt : (y.toInt % 64).toNat < 64 := by omega
  have hs : ((y.toInt64 &&& 63).toBitVec.smod 64#64).toNat = (y.toInt % 64).toNat := by
    have hk' : (y.toInt64 &&& 63).toBitVec.toNat = (y.toInt % 64).toNat := hk
    rw [bn_smod (by omega), hk']
  unfold bn_u bn_shl
  rw [Int64.toBitVec_shiftLeft]
  rw [show (64 : BitVec 64) = 64#64 from rfl]
  rw [BitVec.shiftLeft_eq', BitVec.toNat_shiftLeft, hs, Nat.shiftLeft_eq]
theorem bn_u_shr (x : Int64) (y : Int32) : bn_u (bn_shr x y) = bn_u x / 2^(y.toInt % 64).toNat := by
  have hk := bn_u_and63 y
  have hlt : (y.toInt % 64).toNat < 64 := by omega
  unfold bn_u bn_shr
  have : (y.toInt64.toUInt64 &&& Int64.toUInt64 63).toNat = (y.toInt % 64).toNat := hk
  show (x.toUInt64 >>> (y.toInt64.toUInt64 &&& Int64.toUInt64 63)).toNat = _
  rw [UInt64.toNat_shiftRight, this, Nat.mod_eq_of_lt hlt, Nat.shiftRight_eq_div_pow]
  rfl
theorem bn_s_sar (x : Int64) (y : Int32) : (bn_sar x y).toInt = x.toInt / 2^(y.toInt % 64).toNat := by
  have hk := bn_u_and63 y
  have hlt : (y.toInt % 64).toNat < 64 := by omega
  have hs : ((y.toInt64 &&& 63).toBitVec.smod 64#64).toNat = (y.toInt % 64).toNat := by
    have hk' : (y.toInt64 &&& 63).toBitVec.toNat = (y.toInt % 64).toNat := hk
    rw [bn_smod (by omega), hk']
  rw [← Int64.toInt_toBitVec]
  unfold bn_sar
  rw [Int64.toBitVec_shiftRight]
  rw [show (64 : BitVec 64) = 64#64 from rfl]
  rw [BitVec.sshiftRight_eq', BitVec.toInt_sshiftRight, hs, Int.shiftRight_eq_div_pow]
  simp
def bn_len (m : Nat) : Nat := if m = 0 then 0 else m.log2 + 1
theorem bn_len_le {m k : Nat} : bn_len m ≤ k ↔ m < 2^k := by
  unfold bn_len
  split
  · next h => subst h; exact ⟨fun _ => Nat.two_pow_pos k, fun _ => Nat.zero_le _⟩
  · next h => rw [← Nat.log2_lt h]; exact Iff.rfl
theorem bn_lt_len {m k : Nat} : k < bn_len m ↔ 2^k ≤ m := by
  rw [← Nat.not_le, bn_len_le, Nat.not_lt]
theorem bn_len_eq {m k : Nat} (h1 : 2^k ≤ m) (h2 : m < 2^(k+1)) : bn_len m = k + 1 := by
  have := bn_len_le.mpr h2
  have := bn_lt_len.mpr h1
  omega
theorem bn_len_zero : bn_len 0 = 0 := rfl
theorem bn_len_pos {m : Nat} (h : 0 < m) : 0 < bn_len m := by rw [bn_lt_len]; exact h
theorem bn_len_lt (m : Nat) : m < 2^bn_len m := bn_len_le.mp (Nat.le_refl _)
theorem bn_len_ge {m : Nat} (h : 0 < m) : 2^(bn_len m - 1) ≤ m := bn_lt_len.mp (by have := bn_len_pos h; omega)
theorem bn_len_mono {a b : Nat} (h : a ≤ b) : bn_len a ≤ bn_len b := bn_len_le.mpr (Nat.lt_of_le_of_lt h (bn_len_lt b))
theorem bn_len_mul {m : Nat} (h : 0 < m) (k : Nat) : bn_len (m * 2^k) = bn_len m + k := by
  have h1 := bn_len_pos h
  have e : bn_len m + k = (bn_len m - 1 + k) + 1 := by omega
  rw [e]; apply bn_len_eq
  · rw [Nat.pow_add]; exact Nat.mul_le_mul_right _ (bn_len_ge h)
  · rw [show bn_len m - 1 + k + 1 = bn_len m + k by omega, Nat.pow_add]
    exact Nat.mul_lt_mul_of_pos_right (bn_len_lt m) (Nat.two_pow_pos k)
theorem bn_len_div (m k : Nat) : bn_len (m / 2^k) = bn_len m - k := by
  rcases Nat.lt_or_ge m (2^k) with h | h
  · rw [Nat.div_eq_of_lt h]; have := bn_len_le.mpr h; simp [bn_len_zero]; omega
  · have h1 := bn_lt_len.mpr h
    have e : bn_len m - k = (bn_len m - k - 1) + 1 := by omega
    have hm : 0 < m := Nat.lt_of_lt_of_le (Nat.two_pow_pos k) h
    rw [e]; apply bn_len_eq
    · rw [Nat.le_div_iff_mul_le (Nat.two_pow_pos k), ← Nat.pow_add, show bn_len m - k - 1 + k = bn_len m - 1 by omega]
      exact bn_len_ge hm
    · rw [Nat.div_lt_iff_lt_mul (Nat.two_pow_pos k), ← Nat.pow_add, show bn_len m - k - 1 + 1 + k = bn_len m by omega]
      exact bn_len_lt m
def bn_rne (m d : Nat) : Nat := m / 2^d + (if 2^d < 2 * (m % 2^d) ∨ (2 * (m % 2^d) = 2^d ∧ m / 2^d % 2 = 1) then 1 else 0)
theorem bn_rne_zero (m : Nat) : bn_rne m 0 = m := by
  unfold bn_rne; simp [Nat.mod_one]
def bn_tr (k m : Nat) : Nat := if m % 2^k = 0 then m / 2^k else m / 2^k / 2 * 2 + 1
theorem bn_tr_zero (m : Nat) : bn_tr 0 m = m := by simp [bn_tr, Nat.mod_one]
theorem bn_tr_half (k m : Nat) : bn_tr k m / 2 = m / 2^k / 2 := by
  unfold bn_tr; split <;> omega
theorem bn_tr_len {k m : Nat} (h : 2^k ≤ m) : bn_len (bn_tr k m) = bn_len m - k := by
  rw [← bn_len_div]
  have hA : 1 ≤ m / 2^k := (Nat.le_div_iff_mul_le (Nat.two_pow_pos k)).mpr (by omega)
  unfold bn_tr
  split
  · rfl
  · generalize m / 2^k = A at *
    have h1 := bn_len_lt A
    have h2 := bn_len_ge hA
    have h3 := bn_len_pos hA
    have e : bn_len A = (bn_len A - 1) + 1 := by omega
    rw [e]
    apply bn_len_eq
    · omega
    · rw [← e]
      rcases Nat.eq_or_lt_of_le h3 with q | q
      · rw [← q] at h1 ⊢; omega
      · have : 2 ^ bn_len A = 2 * 2^(bn_len A - 1) := by rw [← Nat.pow_succ']; congr 1
        omega
theorem bn_div_pow (m k d : Nat) : m / 2^(d + k) = m / 2^k / 2^d := by
  rw [Nat.div_div_eq_div_mul, ← Nat.pow_add, Nat.add_comm]
theorem bn_mod_pow (m k d : Nat) : m % 2^(d + k) = (m / 2^k % 2^d) * 2^k + m % 2^k := by
  rw [Nat.add_comm d k, Nat.pow_add, Nat.mod_mul, Nat.mul_comm (2^k)]; omega
theorem bn_rne_tr (m k d : Nat) (hd : 2 ≤ d) : bn_rne (bn_tr k m) d = bn_rne m (d + k) := by
  have q1 : bn_tr k m / 2^d = m / 2^(d + k) := by
    have : 2^d = 2 * 2^(d-1) := by rw [← Nat.pow_succ']; congr 1; omega
    rw [bn_div_pow, this, ← Nat.div_div_eq_div_mul, ← Nat.div_div_eq_div_mul, bn_tr_half]
  unfold bn_rne
  rw [q1]
  congr 1
  have hK := Nat.two_pow_pos k
  have hr := Nat.mod_lt m hK
  have ha := Nat.mod_lt (m / 2^k) (Nat.two_pow_pos d)
  have e1 := bn_mod_pow m k d
  have e2 : bn_tr k m % 2^d = if m % 2^k = 0 then m / 2^k % 2^d else (m / 2^k % 2^d) / 2 * 2 + 1 := by
    unfold bn_tr
    split
    · rfl
    · have h2 : 2^d = 2 * 2^(d-1) := by rw [← Nat.pow_succ']; congr 1; omega
      rw [h2, Nat.mod_mul, Nat.mod_mul, show (m / 2^k / 2 * 2 + 1) / 2 = m / 2^k / 2 by omega, show (m / 2^k / 2 * 2 + 1) % 2 = 1 by omega]
      omega
  have h2 : 2^d = 4 * 2^(d-2) := by
    rw [show (4 : Nat) = 2^2 from rfl, ← Nat.pow_add]; congr 1; omega
  rw [e1, e2, Nat.pow_add]
  generalize m / 2^k % 2^d = a at *
  generalize m % 2^k = r at *
  generalize hh : 2^(d-2) = h at *
  generalize 2^k = K at *
  rw [h2]
  have c1 : (4 * h * K < 2 * (a * K + r)) ↔ (2 * h < a ∨ (a = 2 * h ∧ 0 < r)) := by
    constructor
    · intro q
      rcases Nat.lt_trichotomy a (2 * h) with w | w | w
      · exfalso
        have : (a + 1) * K ≤ 2 * h * K := Nat.mul_le_mul_right K w
        rw [Nat.add_mul] at this
        have e : 4 * h * K = 2 * (2 * h * K) := by rw [← Nat.mul_assoc, ← Nat.mul_assoc]
        omega
      · right
        refine ⟨w, ?_⟩
        subst w
        have e : 4 * h * K = 2 * (2 * h * K) := by rw [← Nat.mul_assoc, ← Nat.mul_assoc]
        omega
      · exact Or.inl w
    · have e : 4 * h * K = 2 * (2 * h * K) := by rw [← Nat.mul_assoc, ← Nat.mul_assoc]
      rintro (w | ⟨w, w2⟩)
      · have : (2 * h + 1) * K ≤ a * K := Nat.mul_le_mul_right K w
        rw [Nat.add_mul] at this
        omega
      · subst w; omega
  have c2 : (2 * (a * K + r) = 4 * h * K) ↔ (a = 2 * h ∧ r = 0) := by
    have e : 4 * h * K = 2 * (2 * h * K) := by rw [← Nat.mul_assoc, ← Nat.mul_assoc]
    constructor
    · intro q
      rcases Nat.lt_trichotomy a (2 * h) with w | w | w
      · exfalso
        have : (a + 1) * K ≤ 2 * h * K := Nat.mul_le_mul_right K w
        rw [Nat.add_mul] at this
        omega
      · refine ⟨w, ?_⟩
        subst w; omega
      · exfalso
        have : (2 * h + 1) * K ≤ a * K := Nat.mul_le_mul_right K w
        rw [Nat.add_mul] at this
        omega
    · rintro ⟨w, w2⟩
      subst w; omega
  simp only [c1, c2]
  split
  · next hr0 =>
    have i1 : (4 * h < 2 * a ↔ (2 * h < a ∨ a = 2 * h ∧ 0 < r)) := by omega
    have i2 : (2 * a = 4 * h ↔ (a = 2 * h ∧ r = 0)) := by omega
    simp only [i1, i2]
  · next hr0 =>
    have i1 : (4 * h < 2 * (a / 2 * 2 + 1) ↔ (2 * h < a ∨ a = 2 * h ∧ 0 < r)) := by omega
    have i2 : (2 * (a / 2 * 2 + 1) = 4 * h ↔ (a = 2 * h ∧ r = 0)) := by omega
    simp only [i1, i2]
theorem bn_rne_mul (m k d : Nat) : bn_rne (m * 2^k) (d + k) = bn_rne m d := by
  unfold bn_rne
  rw [bn_div_pow, Nat.mul_div_cancel _ (Nat.two_pow_pos k), bn_mod_pow, Nat.mul_mod_left, Nat.mul_div_cancel _ (Nat.two_pow_pos k)]
  congr 1
  have hK := Nat.two_pow_pos k
  rw [Nat.pow_add]
  generalize m % 2^d = a at *
  generalize 2^d = D at *
  generalize 2^k = K at *
  have i1 : (D * K < 2 * (a * K + 0)) ↔ D < 2 * a := by
    rw [Nat.add_zero, ← Nat.mul_assoc]
    exact Nat.mul_lt_mul_right hK
  have i2 : (2 * (a * K + 0) = D * K) ↔ 2 * a = D := by
    rw [Nat.add_zero, ← Nat.mul_assoc]
    exact Nat.mul_left_inj (by omega)
  simp only [i1, i2]
def bn_ns (P : Nat) (mn : Int) (m : Nat) (e : Int) : Int := max (e + bn_len m - P) mn
def bn_rn (P : Nat) (mn : Int) (m : Nat) (e : Int) : Nat :=
  (bn_ns P mn m e - mn).toNat * 2^(P-1) + (if bn_ns P mn m e ≤ e then m * 2^(e - bn_ns P mn m e).toNat else bn_rne m (bn_ns P mn m e - e).toNat)
theorem bn_rn_tr (P : Nat) (mn : Int) (m : Nat) (e : Int) (k : Nat) (h : 2^k ≤ m) (hk : e + k + 2 ≤ bn_ns P mn m e) :
    bn_rn P mn (bn_tr k m) (e + k) = bn_rn P mn m e := by
  have hl := bn_tr_len h
  have h0 := bn_lt_len.mpr h
  have hns : bn_ns P mn (bn_tr k m) (e + k) = bn_ns P mn m e := by
    unfold bn_ns; rw [hl]; congr 1; omega
  unfold bn_rn
  rw [hns, if_neg (by omega), if_neg (by omega), bn_rne_tr _ _ _ (by omega)]
  congr 2; omega
theorem bn_rn_mul (P : Nat) (mn : Int) (m : Nat) (e : Int) (k : Nat) (h : 0 < m) :
    bn_rn P mn (m * 2^k) e = bn_rn P mn m (e + k) := by
  have hl := bn_len_mul h k
  have hns : bn_ns P mn (m * 2^k) e = bn_ns P mn m (e + k) := by
    unfold bn_ns; rw [hl]; congr 1; omega
  unfold bn_rn
  rw [hns]
  generalize bn_ns P mn m (e + k) = n
  congr 1
  by_cases q : n ≤ e
  · rw [if_pos q, if_pos (by omega), Nat.mul_assoc, ← Nat.pow_add]; congr 2; omega
  · rw [if_neg q]
    by_cases q2 : n ≤ e + k
    · rw [if_pos q2]
      have e1 : k = (e + k - n).toNat + (n - e).toNat := by omega
      generalize hj : (e + k - n).toNat = j at *
      rw [e1, Nat.pow_add, ← Nat.mul_assoc]
      have := bn_rne_mul (m * 2^j) (n - e).toNat 0
      rw [Nat.zero_add] at this
      rw [this, bn_rne_zero]
    · rw [if_neg q2, show (n - e).toNat = (n - (e + k)).toNat + k by omega, bn_rne_mul]
end
section
def fm_places (k : Nat) : Int32 := if k = 0 then 24 else 53
def fm_greatestExponent (k : Nat) : Int32 := if k = 0 then 255 else 2047
def fm_leastScale (k : Nat) : Int32 := if k = 0 then (-149) else (-1074)
def fm_signBit (k : Nat) : Int64 := if k = 0 then 2147483648 else (-9223372036854775808)
def fm_leadingBit (k : Nat) : Int64 := if k = 0 then 8388608 else 4503599627370496
def fm_infinite (k : Nat) : Int64 := if k = 0 then 2139095040 else 9218868437227405312
def fm_none (k : Nat) : Int64 := if k = 0 then 2143289344 else 9221120237041090560
def tb_list (k : Nat) : List Int32 := match k with
  | 0 => [69, 80, 91, 97, 103, 121, 139, 153, 167]
  | 1 => [1, 1, 0, 0, 3, 3, 7, 7, 41]
  | 2 => [1, 2, 2, 3, 3, 0, 0, 2, 2, 3, 3, 0, 0, 1, 1, 3, 0, 0, 1, 1, 2, 2, 3, 0, 1, 0, 0, 1, 1, 1, -1, -1, -1, 2, 2, 3, 3, 2, 2, 3, 3]
  | _ => [0, 0, 0, 0, 0, 1, 1, 1, 1, 1, 1, 2, 2, 2, 2, 2, 3, 3, 3, 3, 3, 0, 1, 2, 3, 0, 0, 1, 1, 1, -1, -1, -1, 0, 0, 0, 0, 1, 1, 1, 1]
def tb (k j : Nat) : Int32 := (tb_list k).getD j 0
def tb_len (k : Nat) : Nat := (tb_list k).length
def tb_len32 (k : Nat) : Int32 := Int32.ofNat (tb_len k)
def fLong_compare (a0 : Int64) (a2 : Int64) : Int32 :=
  (if a2 ≤ a0 then (if a0 = a2 then 0 else 1) else (-1))
def fLong_bitCount_55 (a0 : Int64) : Int32 :=
  (a0.toInt32 &&& 127)
def fLong_bitCount_48 (a0 : Int64) : Int32 :=
  (fLong_bitCount_55 (a0 + (bn_shr a0 32)))
def fLong_bitCount_41 (a0 : Int64) : Int32 :=
  (fLong_bitCount_48 (a0 + (bn_shr a0 16)))
def fLong_bitCount_34 (a0 : Int64) : Int32 :=
  (fLong_bitCount_41 (a0 + (bn_shr a0 8)))
def fLong_bitCount_24 (a0 : Int64) : Int32 :=
  (fLong_bitCount_34 ((a0 + (bn_shr a0 4)) &&& 1085102592571150095))
def fLong_bitCount_10 (a0 : Int64) : Int32 :=
  (fLong_bitCount_24 ((a0 &&& 3689348814741910323) + ((bn_shr a0 2) &&& 3689348814741910323)))
def fLong_bitCount (a0 : Int64) : Int32 :=
  (fLong_bitCount_10 (a0 - ((bn_shr a0 1) &&& 6148914691236517205)))
def fMath_max (a0 : Int32) (a1 : Int32) : Int32 :=
  (if a0 < a1 then a1 else a0)
def fMath_min (a0 : Int32) (a1 : Int32) : Int32 :=
  (if a1 < a0 then a1 else a0)
def fOperators_exists_34  : Int32 :=
  0
def fOperators_exists_30  : Int32 :=
  1
def fOperators_exists_16 (a0 : Int32) : Int32 :=
  (if a0 < 200 then (fOperators_exists_34) else (if 207 < a0 then (fOperators_exists_34) else (fOperators_exists_30)))
def fOperators_exists (a0 : Int32) : Int32 :=
  (if a0 < (tb 0 (0 : Int32).toNatClampNeg) then (fOperators_exists_16 a0) else (if a0 ≤ 196 then (fOperators_exists_30) else (fOperators_exists_16 a0)))
def fOperators_family_23 (K : Int32 → Int32 → Int32 → Int32) (a0 : Int32) (a1 : Int32) (a2 : Int32) : Int32 :=
  (K a0 a1 (a2 + 1))
def fOperators_family_4 : Nat → Int32 → Int32 → Int32 → Int32
  | 0, _, _, _ => 0
  | n + 1, a0, a1, a2 =>
    (if 9 ≤ a2 then a1 else (if a0 < (tb 0 a2.toNatClampNeg) then (fOperators_family_23 (fOperators_family_4 n) a0 a1 a2) else (fOperators_family_23 (fOperators_family_4 n) a0 a2 a2)))
def fOperators_family (a0 : Int32) : Int32 :=
  (fOperators_family_4 9 a0 0 1)
def fOperators_operands_5 (a0 : Int32) (a1 : Int32) : Int32 :=
  (if (tb 1 a1.toNatClampNeg) ≤ (a0 - (tb 0 a1.toNatClampNeg)) then 2 else 1)
def fOperators_operands (a0 : Int32) : Int32 :=
  (fOperators_operands_5 a0 (fOperators_family a0))
def fOperators_typeIn_25  : Int32 :=
  (-1)
def fOperators_typeIn_9 (a0 : Nat) (a2 : Int32) : Int32 :=
  (if a2 < 0 then (fOperators_typeIn_25) else (if (tb_len32 a0) ≤ a2 then (fOperators_typeIn_25) else (tb a0 a2.toNatClampNeg)))
def fOperators_typeIn (a0 : Nat) (a1 : Int32) : Int32 :=
  (fOperators_typeIn_9 a0 (a1 - (tb 0 (8 : Int32).toNatClampNeg)))
def fOperators_operandType_5 (a0 : Int32) (a1 : Int32) : Int32 :=
  (if 8 ≤ a1 then (fOperators_typeIn 2 a0) else (a1 - a1 / 4 * 4))
def fOperators_operandType (a0 : Int32) : Int32 :=
  (fOperators_operandType_5 a0 (fOperators_family a0))
def fOperators_resultType_5 (a0 : Int32) (a1 : Int32) : Int32 :=
  (if 4 ≤ a1 then (if 8 ≤ a1 then (fOperators_typeIn 3 a0) else (a1 - a1 / 4 * 4)) else 0)
def fOperators_resultType (a0 : Int32) : Int32 :=
  (fOperators_resultType_5 a0 (fOperators_family a0))
def fWhole_width (a0 : Int32) : Int32 :=
  (if a0 = 0 then 32 else 64)
def fWhole_greatest_19 (s0 : Int32) (s1 : Int32) (s2 : Int64) : Int64 :=
  (bn_shr s2 (s1 + s0))
def fWhole_greatest (a0 : Int32) (a1 : Int32) : Int64 :=
  (if a1 = 0 then (fWhole_greatest_19 0 (64 - (fWhole_width a0)) (-1)) else (fWhole_greatest_19 1 (64 - (fWhole_width a0)) (-1)))
def fWhole_withoutSign (a0 : Int32) (a1 : Int64) : Int64 :=
  (if a0 = 0 then (a1 &&& 4294967295) else a1)
def fWhole_withSign (a0 : Int32) (a1 : Int64) : Int64 :=
  (if a0 = 0 then a1.toInt32.toInt64 else a1)
def fWhole_trapOf_67 (s0 : Int32) : Int32 :=
  (if s0 = 0 then 0 else 2)
def fWhole_trapOf_66  : Int32 :=
  (fWhole_trapOf_67 0)
def fWhole_trapOf_36 (a0 : Int32) (a1 : Int32) (a2 : Int64) (a4 : Int64) (a6 : Int64) : Int32 :=
  (if a0 = 6 then (if a2 = a6 then (if (fWhole_withSign a1 a4) = (-1) then (fWhole_trapOf_67 1) else (fWhole_trapOf_66)) else (fWhole_trapOf_66)) else (fWhole_trapOf_66))
def fWhole_trapOf_12  : Int32 :=
  0
def fWhole_trapOf (a0 : Int32) (a1 : Int32) (a2 : Int64) (a4 : Int64) : Int32 :=
  (if a0 < 6 then (fWhole_trapOf_12) else (if a0 ≤ 9 then (if a4 = 0 then 1 else (fWhole_trapOf_36 a0 a1 a2 a4 (fWhole_withoutSign a1 ((fWhole_greatest a1 1) + 1)))) else (fWhole_trapOf_12)))
def fConversions_isTowardsZero_35  : Int32 :=
  1
def fConversions_isTowardsZero_28 (a0 : Int32) : Int32 :=
  (if a0 < 200 then 0 else (fConversions_isTowardsZero_35))
def fConversions_isTowardsZero_14 (a0 : Int32) : Int32 :=
  (if a0 ≤ 173 then (fConversions_isTowardsZero_28 a0) else (if a0 < 178 then (fConversions_isTowardsZero_35) else (fConversions_isTowardsZero_28 a0)))
def fConversions_isTowardsZero (a0 : Int32) : Int32 :=
  (if a0 ≤ 167 then (fConversions_isTowardsZero_14 a0) else (if a0 < 172 then (fConversions_isTowardsZero_35) else (fConversions_isTowardsZero_14 a0)))
def fFormat_of (a0 : Int32) : Nat :=
  (if a0 = 2 then 0 else 1)
def fFormat_isNone (a0 : Nat) (a1 : Int64) : Int32 :=
  (if (a1 &&& ((fm_signBit a0) ^^^ (-1))) ≤ (fm_infinite a0) then 0 else 1)
def fConversions_isSigned_38 (a1 : Int32) : Int32 :=
  a1
def fConversions_isSigned_11 (a0 : Int32) (s0 : Int32) : Int32 :=
  (if a0 ≤ 182 then (fConversions_isSigned_38 s0) else (if 187 ≤ a0 then (fConversions_isSigned_38 s0) else (if s0 = 0 then 1 else 0)))
def fConversions_isSigned (a0 : Int32) : Int32 :=
  (if (a0 - a0 / 2 * 2) = 0 then (fConversions_isSigned_11 a0 1) else (fConversions_isSigned_11 a0 0))
def fFormat_isNegative (a0 : Nat) (a1 : Int64) : Int32 :=
  (if (a1 &&& (fm_signBit a0)) = 0 then 0 else 1)
def fConversions_limit (a0 : Nat) (a1 : Int64) (a3 : Int32) (a4 : Int32) : Int64 :=
  (if (fFormat_isNegative a0 a1) = 0 then (fWhole_greatest a3 a4) else (if a4 = 0 then 0 else ((fWhole_greatest a3 1) + 1)))
def fFormat_exponent (a0 : Nat) (a1 : Int64) : Int32 :=
  (((bn_shr a1 ((fm_places a0) - 1)).toInt32) &&& (fm_greatestExponent a0))
def fFormat_significand_9 (a0 : Nat) (a1 : Int64) (a3 : Int64) : Int64 :=
  (if (fFormat_exponent a0 a1) = 0 then a3 else ((fm_leadingBit a0) ||| a3))
def fFormat_significand (a0 : Nat) (a1 : Int64) : Int64 :=
  (fFormat_significand_9 a0 a1 (a1 &&& ((fm_leadingBit a0) - 1)))
def fFormat_scale (a0 : Nat) (a1 : Int64) : Int32 :=
  (((fm_leastScale a0) + (fMath_max (fFormat_exponent a0 a1) 1)) - 1)
def fWhole_length_19 (K : Int64 → Int32 → Int32) (a2 : Int64) (a4 : Int32) : Int32 :=
  (K a2 (a4 * 2))
def fWhole_length_5 : Nat → Int64 → Int32 → Int32
  | 0, _, _ => 0
  | n + 1, a2, a4 =>
    (if 64 ≤ a4 then (fLong_bitCount a2) else (fWhole_length_19 (fWhole_length_5 n) (a2 ||| (bn_shr a2 a4)) a4))
def fWhole_length (a0 : Int64) : Int32 :=
  (fWhole_length_5 7 a0 1)
def fConversions_wholePart (a0 : Int64) (a2 : Int32) : Int64 :=
  (if a2 < 0 then (if (-63) ≤ a2 then (bn_shr a0 (-a2)) else 0) else (bn_shl a0 a2))
def fWhole_orderWithoutSign (a0 : Int64) (a2 : Int64) : Int32 :=
  (fLong_compare (a0 ^^^ (-9223372036854775808)) (a2 ^^^ (-9223372036854775808)))
def fConversions_fits_14 (a3 : Int64) (a5 : Int64) (a7 : Int32) : Int32 :=
  (if a7 ≤ (64 - (fWhole_length a5)) then (if 0 < (fWhole_orderWithoutSign (fConversions_wholePart a5 a7) a3) then 0 else 1) else 0)
def fConversions_fits_7 (a0 : Nat) (a1 : Int64) (a3 : Int64) (a5 : Int64) : Int32 :=
  (fConversions_fits_14 a3 a5 (fFormat_scale a0 a1))
def fConversions_fits (a0 : Nat) (a1 : Int64) (a3 : Int64) : Int32 :=
  (fConversions_fits_7 a0 a1 a3 (fFormat_significand a0 a1))
def fConversions_trapOf (a0 : Int32) (a1 : Nat) (a2 : Int32) (a3 : Int64) : Int32 :=
  (if (fFormat_isNone a1 a3) = 0 then (if (fConversions_fits a1 a3 (fConversions_limit a1 a3 a2 (fConversions_isSigned a0))) = 0 then 2 else 0) else 3)
def fOperators_trapOf_76  : Int32 :=
  0
def fOperators_trapOf_24 (a0 : Int32) (a1 : Int64) (a3 : Int64) (a5 : Int32) (a6 : Int32) : Int32 :=
  (fWhole_trapOf (a0 - (tb 0 a5.toNatClampNeg)) a6 a1 a3)
def fOperators_trapOf_12 (a0 : Int32) (a1 : Int64) (a3 : Int64) (a5 : Int32) (a6 : Int32) : Int32 :=
  (if a5 = 4 then (fOperators_trapOf_24 a0 a1 a3 a5 a6) else (if a5 = 5 then (fOperators_trapOf_24 a0 a1 a3 a5 a6) else (if a5 = 8 then (if 200 ≤ a0 then (fOperators_trapOf_76) else (if (fConversions_isTowardsZero a0) = 0 then (fOperators_trapOf_76) else (fConversions_trapOf a0 (fFormat_of a6) (fOperators_resultType a0) a1))) else (fOperators_trapOf_76))))
def fOperators_trapOf_6 (a0 : Int32) (a1 : Int64) (a3 : Int64) (a5 : Int32) : Int32 :=
  (fOperators_trapOf_12 a0 a1 a3 a5 (fOperators_operandType a0))
def fOperators_trapOf (a0 : Int32) (a1 : Int64) (a3 : Int64) : Int32 :=
  (fOperators_trapOf_6 a0 a1 a3 (fOperators_family a0))
def fWhole_test_24 (a0 : Int32) (a2 : Int64) (a4 : Int64) (a6 : Int32) (a7 : Int32) : Int32 :=
  (if a0 = 0 then (if a2 = 0 then 1 else 0) else (if a0 = 1 then (if a2 = a4 then 1 else 0) else (if a0 = 2 then (if a2 = a4 then 0 else 1) else (if a0 = 3 then (if 0 ≤ a6 then 0 else 1) else (if a0 = 4 then (if 0 ≤ a7 then 0 else 1) else (if a0 = 5 then (if a6 ≤ 0 then 0 else 1) else (if a0 = 6 then (if a7 ≤ 0 then 0 else 1) else (if a0 = 7 then (if 0 < a6 then 0 else 1) else (if a0 = 8 then (if 0 < a7 then 0 else 1) else (if a0 = 9 then (if a6 < 0 then 0 else 1) else (if a0 = 10 then (if a7 < 0 then 0 else 1) else 0)))))))))))
def fWhole_test_16 (a0 : Int32) (a2 : Int64) (a4 : Int64) (a6 : Int32) : Int32 :=
  (fWhole_test_24 a0 a2 a4 a6 (fWhole_orderWithoutSign a2 a4))
def fWhole_test (a0 : Int32) (a1 : Int32) (a2 : Int64) (a4 : Int64) : Int32 :=
  (fWhole_test_16 a0 a2 a4 (fLong_compare (fWhole_withSign a1 a2) (fWhole_withSign a1 a4)))
def fFormat_magnitude (a0 : Nat) (a1 : Int64) : Int64 :=
  (a1 &&& ((fm_signBit a0) ^^^ (-1)))
def fFloating_number_6 (a0 : Nat) (a1 : Int64) (a3 : Int64) : Int64 :=
  (if (fFormat_isNegative a0 a1) = 0 then a3 else (-a3))
def fFloating_number (a0 : Nat) (a1 : Int64) : Int64 :=
  (fFloating_number_6 a0 a1 (fFormat_magnitude a0 a1))
def fFloating_test_44 (a0 : Int32) (a6 : Int32) : Int32 :=
  (if a0 = 0 then (if a6 = 0 then 1 else 0) else (if a0 = 1 then (if a6 = 0 then 0 else 1) else (if a0 = 2 then (if 0 ≤ a6 then 0 else 1) else (if a0 = 3 then (if a6 ≤ 0 then 0 else 1) else (if a0 = 4 then (if 0 < a6 then 0 else 1) else (if a0 = 5 then (if a6 < 0 then 0 else 1) else 0))))))
def fFloating_test_17 (a0 : Int32) : Int32 :=
  (if a0 = 1 then 1 else 0)
def fFloating_test (a0 : Int32) (a1 : Nat) (a2 : Int64) (a4 : Int64) : Int32 :=
  (if (fFormat_isNone a1 a2) = 0 then (if (fFormat_isNone a1 a4) = 0 then (fFloating_test_44 a0 (fLong_compare (fFloating_number a1 a2) (fFloating_number a1 a4))) else (fFloating_test_17 a0)) else (fFloating_test_17 a0))
def fWhole_quotientWithoutSign_31 (a0 : Int64) (a2 : Int64) (a4 : Int64) : Int64 :=
  (if 0 ≤ (fWhole_orderWithoutSign (a0 - (a4 * a2)) a2) then (a4 + 1) else a4)
def fWhole_quotientWithoutSign (a0 : Int64) (a2 : Int64) : Int64 :=
  (if 0 < a2 then (fWhole_quotientWithoutSign_31 a0 a2 (((bn_shr a0 1) / a2) * 2)) else (if 0 ≤ (fWhole_orderWithoutSign a0 a2) then 1 else 0))
def fWhole_divided_22  : Int64 :=
  0
def fWhole_divided_8 (a0 : Int32) (a1 : Int32) (a2 : Int64) (a4 : Int64) (a6 : Int64) : Int64 :=
  (if a4 = 0 then (fWhole_divided_22) else (if a6 = 0 then (fWhole_divided_22) else (if a0 = 6 then ((fWhole_withSign a1 a2) / a6) else (if a0 = 7 then (fWhole_quotientWithoutSign a2 a4) else (if a0 = 8 then ((fWhole_withSign a1 a2) - (fWhole_withSign a1 a2) / a6 * a6) else (a2 - (a4 * (fWhole_quotientWithoutSign a2 a4))))))))
def fWhole_divided (a0 : Int32) (a1 : Int32) (a2 : Int64) (a4 : Int64) : Int64 :=
  (fWhole_divided_8 a0 a1 a2 a4 (fWhole_withSign a1 a4))
def fWhole_shifted (a0 : Int32) (a1 : Int32) (a2 : Int64) (a4 : Int32) : Int64 :=
  (if a0 = 13 then (bn_shl a2 a4) else (if a0 = 14 then (bn_sar (fWhole_withSign a1 a2) a4) else (if a0 = 15 then (bn_shr a2 a4) else (if a0 = 16 then ((bn_shl a2 a4) ||| (bn_shr a2 ((fWhole_width a1) - a4))) else (if a0 = 17 then ((bn_shr a2 a4) ||| (bn_shl a2 ((fWhole_width a1) - a4))) else a2)))))
def fWhole_result (a0 : Int32) (a1 : Int32) (a2 : Int64) (a4 : Int64) : Int64 :=
  (if a0 = 0 then (((fWhole_width a1) - (fWhole_length a2)).toInt64) else (if a0 = 1 then (if a2 = 0 then ((fWhole_width a1).toInt64) else ((fLong_bitCount ((a2 &&& (-a2)) - 1)).toInt64)) else (if a0 = 2 then ((fLong_bitCount a2).toInt64) else (if a0 = 3 then (a2 + a4) else (if a0 = 4 then (a2 - a4) else (if a0 = 5 then (a2 * a4) else (if a0 = 6 then (fWhole_divided a0 a1 a2 a4) else (if a0 = 7 then (fWhole_divided a0 a1 a2 a4) else (if a0 = 8 then (fWhole_divided a0 a1 a2 a4) else (if a0 = 9 then (fWhole_divided a0 a1 a2 a4) else (if a0 = 10 then (a2 &&& a4) else (if a0 = 11 then (a2 ||| a4) else (if a0 = 12 then (a2 ^^^ a4) else (fWhole_shifted a0 a1 a2 (a4.toInt32 &&& ((fWhole_width a1) - 1))))))))))))))))
def fFormat_signed (a0 : Nat) (a1 : Int32) (a2 : Int64) : Int64 :=
  (if a1 = 0 then a2 else (a2 ||| (fm_signBit a0)))
def fFormat_nearest_67 (a3 : Int64) (s0 : Int32) : Int64 :=
  (if s0 = 0 then a3 else (a3 + 1))
def fFormat_nearest_66 (a3 : Int64) : Int64 :=
  (fFormat_nearest_67 a3 0)
def fFormat_nearest_62 (a3 : Int64) : Int64 :=
  (fFormat_nearest_67 a3 1)
def fFormat_nearest_38 (a3 : Int64) (a5 : Int64) (a7 : Int64) : Int64 :=
  (if a7 < a5 then (fFormat_nearest_62 a3) else (if a5 = a7 then (if (a3 &&& 1) = 0 then (fFormat_nearest_66 a3) else (fFormat_nearest_62 a3)) else (fFormat_nearest_66 a3)))
def fFormat_nearest_31 (a2 : Int32) (a3 : Int64) (a5 : Int64) : Int64 :=
  (fFormat_nearest_38 a3 a5 (bn_shl 1 (a2 - 1)))
def fFormat_nearest_24 (a0 : Int64) (a2 : Int32) (a3 : Int64) : Int64 :=
  (fFormat_nearest_31 a2 a3 (a0 - (bn_shl a3 a2)))
def fFormat_nearest_10 (a0 : Int64) (a2 : Int32) : Int64 :=
  (if 0 < a2 then 0 else a0)
def fFormat_nearest (a0 : Int64) (a2 : Int32) : Int64 :=
  (if a2 ≤ 0 then (fFormat_nearest_10 a0 a2) else (if a2 ≤ 63 then (fFormat_nearest_24 a0 a2 (bn_shr a0 a2)) else (fFormat_nearest_10 a0 a2)))
def fFormat_rounded_96 (a0 : Nat) (a1 : Int32) (a7 : Int32) (a9 : Int64) : Int64 :=
  (fFormat_signed a0 a1 ((bn_shl a7.toInt64 ((fm_places a0) - 1)) + a9))
def fFormat_rounded_94 (a0 : Nat) (a1 : Int32) (a7 : Int32) (s0 : Int64) : Int64 :=
  (fFormat_rounded_96 a0 a1 a7 s0)
def fFormat_rounded_75 (a0 : Nat) (a1 : Int32) (a2 : Int64) (a7 : Int32) (a8 : Int32) : Int64 :=
  (if 0 ≤ a8 then (fFormat_rounded_94 a0 a1 a7 (fFormat_nearest a2 a8)) else (fFormat_rounded_94 a0 a1 a7 (bn_shl a2 (-a8))))
def fFormat_rounded_47 (a0 : Nat) (a1 : Int32) (a2 : Int64) (a4 : Int32) (a6 : Int32) (a7 : Int32) : Int64 :=
  (if a7 < ((fm_greatestExponent a0) - 1) then (fFormat_rounded_75 a0 a1 a2 a7 (a6 - a4)) else (fFormat_signed a0 a1 (fm_infinite a0)))
def fFormat_rounded_38 (a0 : Nat) (a1 : Int32) (a2 : Int64) (a4 : Int32) (a6 : Int32) : Int64 :=
  (fFormat_rounded_47 a0 a1 a2 a4 a6 (a6 - (fm_leastScale a0)))
def fFormat_rounded_19 (a0 : Nat) (a1 : Int32) (a2 : Int64) (a4 : Int32) (a5 : Int32) : Int64 :=
  (fFormat_rounded_38 a0 a1 a2 a4 (fMath_max ((a4 + a5) - (fm_places a0)) (fm_leastScale a0)))
def fFormat_rounded (a0 : Nat) (a1 : Int32) (a2 : Int64) (a4 : Int32) : Int64 :=
  (if a2 = 0 then (fFormat_signed a0 a1 0) else (fFormat_rounded_19 a0 a1 a2 a4 (fWhole_length a2)))
def fFloating_wholeNumber_132 (s0 : Int64) (s1 : Int32) (s2 : Nat) : Int64 :=
  (fFormat_rounded s2 s1 s0 0)
def fFloating_wholeNumber_130 (a9 : Int64) (s0 : Int32) (s1 : Nat) : Int64 :=
  (fFloating_wholeNumber_132 a9 s0 s1)
def fFloating_wholeNumber_108 (a1 : Nat) (a5 : Int32) (a9 : Int64) (a11 : Int32) (s0 : Int32) : Int64 :=
  (if a11 = 0 then (fFloating_wholeNumber_130 a9 a5 a1) else (if s0 = 0 then (fFloating_wholeNumber_130 a9 a5 a1) else (fFloating_wholeNumber_132 (a9 + 1) a5 a1)))
def fFloating_wholeNumber_107 (a1 : Nat) (a5 : Int32) (a9 : Int64) (a11 : Int32) : Int64 :=
  (fFloating_wholeNumber_108 a1 a5 a9 a11 0)
def fFloating_wholeNumber_103 (a1 : Nat) (a5 : Int32) (a9 : Int64) (a11 : Int32) : Int64 :=
  (fFloating_wholeNumber_108 a1 a5 a9 a11 1)
def fFloating_wholeNumber_93 (a0 : Int32) (a1 : Nat) (a5 : Int32) (a9 : Int64) (a11 : Int32) : Int64 :=
  (if a0 = 3 then (if a5 = 0 then (fFloating_wholeNumber_107 a1 a5 a9 a11) else (fFloating_wholeNumber_103 a1 a5 a9 a11)) else (fFloating_wholeNumber_107 a1 a5 a9 a11))
def fFloating_wholeNumber_81 (a0 : Int32) (a1 : Nat) (a5 : Int32) (a9 : Int64) (s0 : Int32) : Int64 :=
  (if a0 = 2 then (if a5 = 0 then (fFloating_wholeNumber_103 a1 a5 a9 s0) else (fFloating_wholeNumber_93 a0 a1 a5 a9 s0)) else (fFloating_wholeNumber_93 a0 a1 a5 a9 s0))
def fFloating_wholeNumber_65 (a0 : Int32) (a1 : Nat) (a5 : Int32) (a6 : Int64) (a8 : Int32) (a9 : Int64) : Int64 :=
  (if (bn_shl a9 a8) = a6 then (fFloating_wholeNumber_81 a0 a1 a5 a9 0) else (fFloating_wholeNumber_81 a0 a1 a5 a9 1))
def fFloating_wholeNumber_58 (a0 : Int32) (a1 : Nat) (a5 : Int32) (a6 : Int64) (a8 : Int32) : Int64 :=
  (fFloating_wholeNumber_65 a0 a1 a5 a6 a8 (bn_shr a6 a8))
def fFloating_wholeNumber_29 (a0 : Int32) (a1 : Nat) (a4 : Int32) (a5 : Int32) (a6 : Int64) : Int64 :=
  (if a0 = 5 then (fFormat_rounded a1 a5 (fFormat_nearest a6 a4) 0) else (fFloating_wholeNumber_58 a0 a1 a5 a6 (fMath_min a4 63)))
def fFloating_wholeNumber_22 (a0 : Int32) (a1 : Nat) (a2 : Int64) (a4 : Int32) (a5 : Int32) : Int64 :=
  (fFloating_wholeNumber_29 a0 a1 a4 a5 (fFormat_significand a1 a2))
def fFloating_wholeNumber_8 (a0 : Int32) (a1 : Nat) (a2 : Int64) (a4 : Int32) : Int64 :=
  (if 0 < a4 then (fFloating_wholeNumber_22 a0 a1 a2 a4 (fFormat_isNegative a1 a2)) else a2)
def fFloating_wholeNumber (a0 : Int32) (a1 : Nat) (a2 : Int64) : Int64 :=
  (fFloating_wholeNumber_8 a0 a1 a2 (-(fFormat_scale a1 a2)))
def fFormat_isZero (a0 : Nat) (a1 : Int64) : Int32 :=
  (if (a1 &&& ((fm_signBit a0) ^^^ (-1))) = 0 then 1 else 0)
def fFormat_isInfinite (a0 : Nat) (a1 : Int64) : Int32 :=
  (if (a1 &&& ((fm_signBit a0) ^^^ (-1))) = (fm_infinite a0) then 1 else 0)
def fFloating_lift (a0 : Int64) : Int32 :=
  (62 - (fWhole_length a0))
def fFloating_root_177 (a10 : Int32) (s0 : Int64) (s1 : Int32) (s2 : Nat) : Int64 :=
  (fFormat_rounded s2 s1 s0 a10)
def fFloating_root_136 (K : Nat → Int64 → Int32 → Int64 → Int64 → Int64 → Int32 → Int64) (a0 : Nat) (a1 : Int64) (a3 : Int32) (a4 : Int64) (a6 : Int64) (a8 : Int64) (a10 : Int32) : Int64 :=
  (K a0 a1 a3 a4 a6 a8 (a10 + 1))
def fFloating_root_130 (K : Nat → Int64 → Int32 → Int64 → Int64 → Int64 → Int32 → Int64) (a0 : Nat) (a1 : Int64) (a3 : Int32) (a4 : Int64) (a6 : Int64) (a8 : Int64) (a10 : Int32) : Int64 :=
  (fFloating_root_136 K a0 a1 a3 a4 (a6 ||| 1) a8 a10)
def fFloating_root_115 (K : Nat → Int64 → Int32 → Int64 → Int64 → Int64 → Int32 → Int64) (a0 : Nat) (a1 : Int64) (a3 : Int32) (a4 : Int64) (a6 : Int64) (a8 : Int64) (a10 : Int32) (a11 : Int64) : Int64 :=
  (if a8 < a11 then (fFloating_root_136 K a0 a1 a3 a4 a6 a8 a10) else (fFloating_root_130 K a0 a1 a3 a4 a6 (a8 - a11) a10))
def fFloating_root_109 (K : Nat → Int64 → Int32 → Int64 → Int64 → Int64 → Int32 → Int64) (a0 : Nat) (a1 : Int64) (a3 : Int32) (a4 : Int64) (a6 : Int64) (a8 : Int64) (a10 : Int32) (a11 : Int64) : Int64 :=
  (fFloating_root_115 K a0 a1 a3 a4 (bn_shl a6 1) a8 a10 a11)
def fFloating_root_101 (K : Nat → Int64 → Int32 → Int64 → Int64 → Int64 → Int32 → Int64) (a0 : Nat) (a1 : Int64) (a3 : Int32) (a4 : Int64) (a6 : Int64) (a8 : Int64) (a10 : Int32) : Int64 :=
  (fFloating_root_109 K a0 a1 a3 a4 a6 a8 a10 ((bn_shl a6 2) ||| 1))
def fFloating_root_95 (K : Nat → Int64 → Int32 → Int64 → Int64 → Int64 → Int32 → Int64) (a0 : Nat) (a1 : Int64) (a3 : Int32) (a4 : Int64) (a6 : Int64) (a8 : Int64) (a10 : Int32) : Int64 :=
  (fFloating_root_101 K a0 a1 a3 (bn_shl a4 2) a6 a8 a10)
def fFloating_root_72 : Nat → Nat → Int64 → Int32 → Int64 → Int64 → Int64 → Int32 → Int64
  | 0, _, _, _, _, _, _, _ => 0
  | n + 1, a0, a1, a3, a4, a6, a8, a10 =>
    (if 57 ≤ a10 then (if a8 = 0 then (fFloating_root_177 (((((fFormat_scale a0 a1) - a3) / 2) + 31) - 57) a6 0 a0) else (fFloating_root_177 (((((fFormat_scale a0 a1) - a3) / 2) + 31) - 57) (a6 ||| 1) 0 a0)) else (fFloating_root_95 (fFloating_root_72 n) a0 a1 a3 a4 a6 ((bn_shl a8 2) ||| ((bn_shr a4 60) &&& 3)) a10))
def fFloating_root_63 (a0 : Nat) (a1 : Int64) (a3 : Int32) (a4 : Int64) : Int64 :=
  (fFloating_root_72 58 a0 a1 a3 a4 0 0 0)
def fFloating_root_54 (a0 : Nat) (a1 : Int64) (a3 : Int32) : Int64 :=
  (fFloating_root_63 a0 a1 a3 (bn_shl (fFormat_significand a0 a1) a3))
def fFloating_root_42 (a0 : Nat) (a1 : Int64) (a3 : Int32) : Int64 :=
  (fFloating_root_54 a0 a1 (a3 - (((fFormat_scale a0 a1) - a3) &&& 1)))
def fFloating_root (a0 : Nat) (a1 : Int64) : Int64 :=
  (if (fFormat_isZero a0 a1) = 0 then (if (fFormat_isNegative a0 a1) = 0 then (if (fFormat_isInfinite a0 a1) = 0 then (fFloating_root_42 a0 a1 (fFloating_lift (fFormat_significand a0 a1))) else a1) else (fm_none a0)) else a1)
def fFloating_sumWithInfinite_46 (a0 : Nat) (a1 : Int64) (a3 : Int64) : Int64 :=
  (if (fFormat_isInfinite a0 a1) = 0 then a3 else a1)
def fFloating_sumWithInfinite_21 (a0 : Nat) (a1 : Int64) (a3 : Int64) (s0 : Int32) : Int64 :=
  (if s0 = 0 then (fFloating_sumWithInfinite_46 a0 a1 a3) else (if (fFormat_isNegative a0 a1) = (fFormat_isNegative a0 a3) then (fFloating_sumWithInfinite_46 a0 a1 a3) else (fm_none a0)))
def fFloating_sumWithInfinite_20 (a0 : Nat) (a1 : Int64) (a3 : Int64) : Int64 :=
  (fFloating_sumWithInfinite_21 a0 a1 a3 0)
def fFloating_sumWithInfinite (a0 : Nat) (a1 : Int64) (a3 : Int64) : Int64 :=
  (if (fFormat_isInfinite a0 a1) = 0 then (fFloating_sumWithInfinite_20 a0 a1 a3) else (if (fFormat_isInfinite a0 a3) = 0 then (fFloating_sumWithInfinite_20 a0 a1 a3) else (fFloating_sumWithInfinite_21 a0 a1 a3 1)))
def fFloating_shiftedWithTrace_22 (a0 : Int64) (a2 : Int32) (a3 : Int64) : Int64 :=
  (if (bn_shl a3 a2) = a0 then a3 else (a3 ||| 1))
def fFloating_shiftedWithTrace (a0 : Int64) (a2 : Int32) : Int64 :=
  (if a2 ≤ 63 then (fFloating_shiftedWithTrace_22 a0 a2 (bn_shr a0 a2)) else (if a0 = 0 then 0 else 1))
def fFloating_sum_191 (a0 : Nat) (a6 : Int64) (a10 : Int32) (a16 : Int64) (a18 : Int32) : Int64 :=
  (fFormat_rounded a0 a18 a16 ((fFormat_scale a0 a6) - a10))
def fFloating_sum_189 (a0 : Nat) (a6 : Int64) (a10 : Int32) (a16 : Int64) (s0 : Int32) : Int64 :=
  (fFloating_sum_191 a0 a6 a10 a16 s0)
def fFloating_sum_179 (a0 : Nat) (a6 : Int64) (a10 : Int32) (a16 : Int64) : Int64 :=
  (fFloating_sum_189 a0 a6 a10 a16 0)
def fFloating_sum_155 (a0 : Nat) (a1 : Int64) (a6 : Int64) (a10 : Int32) (a15 : Int32) (a16 : Int64) : Int64 :=
  (if a16 = 0 then (if a15 = 0 then (fFloating_sum_179 a0 a6 a10 a16) else (if (fFormat_isNegative a0 a1) = 0 then (fFloating_sum_179 a0 a6 a10 a16) else (fFloating_sum_189 a0 a6 a10 a16 1))) else (fFloating_sum_189 a0 a6 a10 a16 (fFormat_isNegative a0 a6)))
def fFloating_sum_153 (a0 : Nat) (a1 : Int64) (a6 : Int64) (a10 : Int32) (a15 : Int32) (s0 : Int64) : Int64 :=
  (fFloating_sum_155 a0 a1 a6 a10 a15 s0)
def fFloating_sum_133 (a0 : Nat) (a1 : Int64) (a6 : Int64) (a10 : Int32) (a11 : Int64) (a13 : Int64) (s0 : Int32) : Int64 :=
  (if s0 = 0 then (fFloating_sum_153 a0 a1 a6 a10 s0 (a11 - a13)) else (fFloating_sum_153 a0 a1 a6 a10 s0 (a11 + a13)))
def fFloating_sum_115 (a0 : Nat) (a1 : Int64) (a3 : Int64) (a6 : Int64) (a10 : Int32) (a11 : Int64) (a13 : Int64) : Int64 :=
  (if (fFormat_isNegative a0 a1) = (fFormat_isNegative a0 a3) then (fFloating_sum_133 a0 a1 a6 a10 a11 a13 1) else (fFloating_sum_133 a0 a1 a6 a10 a11 a13 0))
def fFloating_sum_88 (a0 : Nat) (a1 : Int64) (a3 : Int64) (a6 : Int64) (a8 : Int64) (a10 : Int32) (a11 : Int64) : Int64 :=
  (fFloating_sum_115 a0 a1 a3 a6 a10 a11 (fFloating_shiftedWithTrace (bn_shl (fFormat_significand a0 a8) a10) ((fFormat_scale a0 a6) - (fFormat_scale a0 a8))))
def fFloating_sum_77 (a0 : Nat) (a1 : Int64) (a3 : Int64) (a6 : Int64) (a8 : Int64) (a10 : Int32) : Int64 :=
  (fFloating_sum_88 a0 a1 a3 a6 a8 a10 (bn_shl (fFormat_significand a0 a6) a10))
def fFloating_sum_66 (a0 : Nat) (a1 : Int64) (a3 : Int64) (a6 : Int64) (s0 : Int64) : Int64 :=
  (fFloating_sum_77 a0 a1 a3 a6 s0 (62 - (fm_places a0)))
def fFloating_sum_54 (a0 : Nat) (a1 : Int64) (a3 : Int64) (a5 : Int32) (s0 : Int64) : Int64 :=
  (if a5 = 0 then (fFloating_sum_66 a0 a1 a3 s0 a1) else (fFloating_sum_66 a0 a1 a3 s0 a3))
def fFloating_sum_42 (a0 : Nat) (a1 : Int64) (a3 : Int64) (s0 : Int32) : Int64 :=
  (if s0 = 0 then (fFloating_sum_54 a0 a1 a3 s0 a3) else (fFloating_sum_54 a0 a1 a3 s0 a1))
def fFloating_sum_16 (a0 : Nat) (a1 : Int64) (a3 : Int64) : Int64 :=
  (fFloating_sumWithInfinite a0 a1 a3)
def fFloating_sum (a0 : Nat) (a1 : Int64) (a3 : Int64) : Int64 :=
  (if (fFormat_isInfinite a0 a1) = 0 then (if (fFormat_isInfinite a0 a3) = 0 then (if (fFormat_magnitude a0 a1) < (fFormat_magnitude a0 a3) then (fFloating_sum_42 a0 a1 a3 0) else (fFloating_sum_42 a0 a1 a3 1)) else (fFloating_sum_16 a0 a1 a3)) else (fFloating_sum_16 a0 a1 a3))
def fFloating_highProduct_56 (a8 : Int64) (a10 : Int64) (a12 : Int64) (a14 : Int64) : Int64 :=
  (((a8 * a10) + (bn_shr a12 32)) + (bn_shr a14 32))
def fFloating_highProduct_42 (a4 : Int64) (a8 : Int64) (a10 : Int64) (a12 : Int64) : Int64 :=
  (fFloating_highProduct_56 a8 a10 a12 ((a4 * a10) + (a12 &&& 4294967295)))
def fFloating_highProduct_26 (a4 : Int64) (a6 : Int64) (a8 : Int64) (a10 : Int64) : Int64 :=
  (fFloating_highProduct_42 a4 a8 a10 ((a8 * a6) + (bn_shr (a4 * a6) 32)))
def fFloating_highProduct_20 (a2 : Int64) (a4 : Int64) (a6 : Int64) (a8 : Int64) : Int64 :=
  (fFloating_highProduct_26 a4 a6 a8 (bn_shr a2 32))
def fFloating_highProduct_14 (a0 : Int64) (a2 : Int64) (a4 : Int64) (a6 : Int64) : Int64 :=
  (fFloating_highProduct_20 a2 a4 a6 (bn_shr a0 32))
def fFloating_highProduct_7 (a0 : Int64) (a2 : Int64) (a4 : Int64) : Int64 :=
  (fFloating_highProduct_14 a0 a2 a4 (a2 &&& 4294967295))
def fFloating_highProduct (a0 : Int64) (a2 : Int64) : Int64 :=
  (fFloating_highProduct_7 a0 a2 (a0 &&& 4294967295))
def fFloating_product_188 (a15 : Int32) (s0 : Int64) (s1 : Int32) (s2 : Nat) : Int64 :=
  (fFormat_rounded s2 s1 s0 a15)
def fFloating_product_166 (a0 : Nat) (a5 : Int32) (a9 : Int64) (a11 : Int64) (a13 : Int64) (a15 : Int32) : Int64 :=
  (if (a9 * a11) = 0 then (fFloating_product_188 a15 a13 a5 a0) else (fFloating_product_188 a15 (a13 ||| 1) a5 a0))
def fFloating_product_144 (a0 : Nat) (a1 : Int64) (a3 : Int64) (a5 : Int32) (a7 : Int32) (a8 : Int32) (a9 : Int64) (a11 : Int64) (a13 : Int64) : Int64 :=
  (fFloating_product_166 a0 a5 a9 a11 a13 (((((fFormat_scale a0 a1) - a7) + (fFormat_scale a0 a3)) - a8) + 64))
def fFloating_product_135 (a0 : Nat) (a1 : Int64) (a3 : Int64) (a5 : Int32) (a7 : Int32) (a8 : Int32) (a9 : Int64) (a11 : Int64) : Int64 :=
  (fFloating_product_144 a0 a1 a3 a5 a7 a8 a9 a11 (fFloating_highProduct a9 a11))
def fFloating_product_125 (a0 : Nat) (a1 : Int64) (a3 : Int64) (a5 : Int32) (a7 : Int32) (a8 : Int32) (a9 : Int64) : Int64 :=
  (fFloating_product_135 a0 a1 a3 a5 a7 a8 a9 (bn_shl (fFormat_significand a0 a3) a8))
def fFloating_product_115 (a0 : Nat) (a1 : Int64) (a3 : Int64) (a5 : Int32) (a7 : Int32) (a8 : Int32) : Int64 :=
  (fFloating_product_125 a0 a1 a3 a5 a7 a8 (bn_shl (fFormat_significand a0 a1) a7))
def fFloating_product_105 (a0 : Nat) (a1 : Int64) (a3 : Int64) (a5 : Int32) (a7 : Int32) : Int64 :=
  (fFloating_product_115 a0 a1 a3 a5 a7 (fFloating_lift (fFormat_significand a0 a3)))
def fFloating_product_59 (a0 : Nat) (a5 : Int32) (a6 : Int32) : Int64 :=
  (if a6 = 0 then (fFormat_signed a0 a5 (fm_infinite a0)) else (fm_none a0))
def fFloating_product_41 (a0 : Nat) (a1 : Int64) (a3 : Int64) (a5 : Int32) (s0 : Int32) : Int64 :=
  (if (fFormat_isInfinite a0 a1) = 0 then (if (fFormat_isInfinite a0 a3) = 0 then (if s0 = 0 then (fFloating_product_105 a0 a1 a3 a5 (fFloating_lift (fFormat_significand a0 a1))) else (fFormat_signed a0 a5 0)) else (fFloating_product_59 a0 a5 s0)) else (fFloating_product_59 a0 a5 s0))
def fFloating_product_36 (a0 : Nat) (a1 : Int64) (a3 : Int64) (a5 : Int32) : Int64 :=
  (fFloating_product_41 a0 a1 a3 a5 1)
def fFloating_product_18 (a0 : Nat) (a1 : Int64) (a3 : Int64) (s0 : Int32) : Int64 :=
  (if (fFormat_isZero a0 a1) = 0 then (if (fFormat_isZero a0 a3) = 0 then (fFloating_product_41 a0 a1 a3 s0 0) else (fFloating_product_36 a0 a1 a3 s0)) else (fFloating_product_36 a0 a1 a3 s0))
def fFloating_product (a0 : Nat) (a1 : Int64) (a3 : Int64) : Int64 :=
  (if (fFormat_isNegative a0 a1) = (fFormat_isNegative a0 a3) then (fFloating_product_18 a0 a1 a3 0) else (fFloating_product_18 a0 a1 a3 1))
def fFloating_quotient_253 (a15 : Int32) (s0 : Int64) (s1 : Int32) (s2 : Nat) : Int64 :=
  (fFormat_rounded s2 s1 s0 a15)
def fFloating_quotient_206 (K : Nat → Int64 → Int64 → Int32 → Int32 → Int32 → Int64 → Int64 → Int64 → Int32 → Int64) (a0 : Nat) (a1 : Int64) (a3 : Int64) (a5 : Int32) (a7 : Int32) (a8 : Int32) (a9 : Int64) (a11 : Int64) (a13 : Int64) (a15 : Int32) : Int64 :=
  (K a0 a1 a3 a5 a7 a8 a9 a11 a13 (a15 + 1))
def fFloating_quotient_200 (K : Nat → Int64 → Int64 → Int32 → Int32 → Int32 → Int64 → Int64 → Int64 → Int32 → Int64) (a0 : Nat) (a1 : Int64) (a3 : Int64) (a5 : Int32) (a7 : Int32) (a8 : Int32) (a9 : Int64) (a11 : Int64) (a13 : Int64) (a15 : Int32) : Int64 :=
  (fFloating_quotient_206 K a0 a1 a3 a5 a7 a8 (bn_shl a9 1) a11 a13 a15)
def fFloating_quotient_194 (K : Nat → Int64 → Int64 → Int32 → Int32 → Int32 → Int64 → Int64 → Int64 → Int32 → Int64) (a0 : Nat) (a1 : Int64) (a3 : Int64) (a5 : Int32) (a7 : Int32) (a8 : Int32) (a9 : Int64) (a11 : Int64) (a13 : Int64) (a15 : Int32) : Int64 :=
  (fFloating_quotient_200 K a0 a1 a3 a5 a7 a8 a9 a11 (a13 ||| 1) a15)
def fFloating_quotient_179 (K : Nat → Int64 → Int64 → Int32 → Int32 → Int32 → Int64 → Int64 → Int64 → Int32 → Int64) (a0 : Nat) (a1 : Int64) (a3 : Int64) (a5 : Int32) (a7 : Int32) (a8 : Int32) (a9 : Int64) (a11 : Int64) (a13 : Int64) (a15 : Int32) : Int64 :=
  (if a9 < a11 then (fFloating_quotient_200 K a0 a1 a3 a5 a7 a8 a9 a11 a13 a15) else (fFloating_quotient_194 K a0 a1 a3 a5 a7 a8 (a9 - a11) a11 a13 a15))
def fFloating_quotient_166 : Nat → Nat → Int64 → Int64 → Int32 → Int32 → Int32 → Int64 → Int64 → Int64 → Int32 → Int64
  | 0, _, _, _, _, _, _, _, _, _, _ => 0
  | n + 1, a0, a1, a3, a5, a7, a8, a9, a11, a13, a15 =>
    (if 57 ≤ a15 then (if a9 = 0 then (fFloating_quotient_253 ((((fFormat_scale a0 a1) - a7) - ((fFormat_scale a0 a3) - a8)) - 56) a13 a5 a0) else (fFloating_quotient_253 ((((fFormat_scale a0 a1) - a7) - ((fFormat_scale a0 a3) - a8)) - 56) (a13 ||| 1) a5 a0)) else (fFloating_quotient_179 (fFloating_quotient_166 n) a0 a1 a3 a5 a7 a8 a9 a11 (bn_shl a13 1) a15))
def fFloating_quotient_160 (a0 : Nat) (a1 : Int64) (a3 : Int64) (a5 : Int32) (a7 : Int32) (a8 : Int32) (a9 : Int64) (a11 : Int64) : Int64 :=
  (fFloating_quotient_166 58 a0 a1 a3 a5 a7 a8 a9 a11 0 0)
def fFloating_quotient_150 (a0 : Nat) (a1 : Int64) (a3 : Int64) (a5 : Int32) (a7 : Int32) (a8 : Int32) (a9 : Int64) : Int64 :=
  (fFloating_quotient_160 a0 a1 a3 a5 a7 a8 a9 (bn_shl (fFormat_significand a0 a3) a8))
def fFloating_quotient_140 (a0 : Nat) (a1 : Int64) (a3 : Int64) (a5 : Int32) (a7 : Int32) (a8 : Int32) : Int64 :=
  (fFloating_quotient_150 a0 a1 a3 a5 a7 a8 (bn_shl (fFormat_significand a0 a1) a7))
def fFloating_quotient_130 (a0 : Nat) (a1 : Int64) (a3 : Int64) (a5 : Int32) (a7 : Int32) : Int64 :=
  (fFloating_quotient_140 a0 a1 a3 a5 a7 (fFloating_lift (fFormat_significand a0 a3)))
def fFloating_quotient_112 (a0 : Nat) (a5 : Int32) : Int64 :=
  (fFormat_signed a0 a5 0)
def fFloating_quotient_85 (a0 : Nat) (a5 : Int32) : Int64 :=
  (fFormat_signed a0 a5 (fm_infinite a0))
def fFloating_quotient_57 (a0 : Nat) (a1 : Int64) (a3 : Int64) (a5 : Int32) (s0 : Int32) : Int64 :=
  (if s0 = 0 then (if (fFormat_isInfinite a0 a1) = 0 then (if (fFormat_isZero a0 a3) = 0 then (if (fFormat_isZero a0 a1) = 0 then (if (fFormat_isInfinite a0 a3) = 0 then (fFloating_quotient_130 a0 a1 a3 a5 (fFloating_lift (fFormat_significand a0 a1))) else (fFloating_quotient_112 a0 a5)) else (fFloating_quotient_112 a0 a5)) else (fFloating_quotient_85 a0 a5)) else (fFloating_quotient_85 a0 a5)) else (fm_none a0))
def fFloating_quotient_56 (a0 : Nat) (a1 : Int64) (a3 : Int64) (a5 : Int32) : Int64 :=
  (fFloating_quotient_57 a0 a1 a3 a5 0)
def fFloating_quotient_52 (a0 : Nat) (a1 : Int64) (a3 : Int64) (a5 : Int32) : Int64 :=
  (fFloating_quotient_57 a0 a1 a3 a5 1)
def fFloating_quotient_36 (a0 : Nat) (a1 : Int64) (a3 : Int64) (a5 : Int32) : Int64 :=
  (if (fFormat_isInfinite a0 a1) = 0 then (fFloating_quotient_56 a0 a1 a3 a5) else (if (fFormat_isInfinite a0 a3) = 0 then (fFloating_quotient_56 a0 a1 a3 a5) else (fFloating_quotient_52 a0 a1 a3 a5)))
def fFloating_quotient_18 (a0 : Nat) (a1 : Int64) (a3 : Int64) (s0 : Int32) : Int64 :=
  (if (fFormat_isZero a0 a1) = 0 then (fFloating_quotient_36 a0 a1 a3 s0) else (if (fFormat_isZero a0 a3) = 0 then (fFloating_quotient_36 a0 a1 a3 s0) else (fFloating_quotient_52 a0 a1 a3 s0)))
def fFloating_quotient (a0 : Nat) (a1 : Int64) (a3 : Int64) : Int64 :=
  (if (fFormat_isNegative a0 a1) = (fFormat_isNegative a0 a3) then (fFloating_quotient_18 a0 a1 a3 0) else (fFloating_quotient_18 a0 a1 a3 1))
def fFloating_orderWithZeros_6 (a0 : Nat) (a1 : Int64) (a3 : Int64) : Int64 :=
  (if (fFormat_isNegative a0 a1) = 0 then a3 else (a3 ^^^ (-1)))
def fFloating_orderWithZeros (a0 : Nat) (a1 : Int64) : Int64 :=
  (fFloating_orderWithZeros_6 a0 a1 (fFormat_magnitude a0 a1))
def fFloating_calculated (a0 : Int32) (a1 : Nat) (a2 : Int64) (a4 : Int64) : Int64 :=
  (if a0 = 2 then (fFloating_wholeNumber a0 a1 a2) else (if a0 = 3 then (fFloating_wholeNumber a0 a1 a2) else (if a0 = 4 then (fFloating_wholeNumber a0 a1 a2) else (if a0 = 5 then (fFloating_wholeNumber a0 a1 a2) else (if a0 = 6 then (fFloating_root a1 a2) else (if a0 = 7 then (fFloating_sum a1 a2 a4) else (if a0 = 8 then (fFloating_sum a1 a2 (a4 ^^^ (fm_signBit a1))) else (if a0 = 9 then (fFloating_product a1 a2 a4) else (if a0 = 10 then (fFloating_quotient a1 a2 a4) else (if a0 = 11 then (if (fFloating_orderWithZeros a1 a4) < (fFloating_orderWithZeros a1 a2) then a4 else a2) else (if a0 = 12 then (if (fFloating_orderWithZeros a1 a2) < (fFloating_orderWithZeros a1 a4) then a4 else a2) else a2)))))))))))
def fFloating_result_82 (a1 : Nat) : Int64 :=
  (fm_none a1)
def fFloating_result (a0 : Int32) (a1 : Nat) (a2 : Int64) (a4 : Int64) : Int64 :=
  (if a0 = 0 then (fFormat_magnitude a1 a2) else (if a0 = 1 then (a2 ^^^ (fm_signBit a1)) else (if a0 = 13 then (fFormat_signed a1 (fFormat_isNegative a1 a4) (fFormat_magnitude a1 a2)) else (if (fFormat_isNone a1 a2) = 0 then (if (fFormat_isNone a1 a4) = 0 then (fFloating_calculated a0 a1 a2 a4) else (fFloating_result_82 a1)) else (fFloating_result_82 a1)))))
def fConversions_towardsZero_50 (a1 : Nat) (a3 : Int64) (s0 : Int64) : Int64 :=
  (if (fFormat_isNegative a1 a3) = 0 then s0 else (-s0))
def fConversions_towardsZero_22 (a1 : Nat) (a3 : Int64) (a5 : Int64) : Int64 :=
  (if (fConversions_fits a1 a3 a5) = 0 then (fConversions_towardsZero_50 a1 a3 a5) else (fConversions_towardsZero_50 a1 a3 (fConversions_wholePart (fFormat_significand a1 a3) (fFormat_scale a1 a3))))
def fConversions_towardsZero (a0 : Int32) (a1 : Nat) (a2 : Int32) (a3 : Int64) : Int64 :=
  (if (fFormat_isNone a1 a3) = 0 then (fConversions_towardsZero_22 a1 a3 (fConversions_limit a1 a3 a2 (fConversions_isSigned a0))) else 0)
def fConversions_otherFormat (a0 : Nat) (a1 : Nat) (a2 : Int64) : Int64 :=
  (if (fFormat_isNone a0 a2) = 0 then (if (fFormat_isInfinite a0 a2) = 0 then (fFormat_rounded a1 (fFormat_isNegative a0 a2) (fFormat_significand a0 a2) (fFormat_scale a0 a2)) else (fFormat_signed a1 (fFormat_isNegative a0 a2) (fm_infinite a1))) else (fm_none a1))
def fConversions_fromWhole_49 (s0 : Int64) (s1 : Int32) (s2 : Nat) : Int64 :=
  (fFormat_rounded s2 s1 s0 0)
def fConversions_fromWhole_31 (a2 : Nat) (a5 : Int64) (s0 : Int32) : Int64 :=
  (if s0 = 0 then (fConversions_fromWhole_49 a5 s0 a2) else (fConversions_fromWhole_49 (-a5) s0 a2))
def fConversions_fromWhole_30 (a2 : Nat) (a5 : Int64) : Int64 :=
  (fConversions_fromWhole_31 a2 a5 0)
def fConversions_fromWhole_13 (a0 : Int32) (a2 : Nat) (s0 : Int64) : Int64 :=
  (if a0 = 0 then (fConversions_fromWhole_30 a2 s0) else (if 0 ≤ s0 then (fConversions_fromWhole_30 a2 s0) else (fConversions_fromWhole_31 a2 s0 1)))
def fConversions_fromWhole (a0 : Int32) (a1 : Int32) (a2 : Nat) (a3 : Int64) : Int64 :=
  (if a0 = 0 then (fConversions_fromWhole_13 a0 a2 a3) else (fConversions_fromWhole_13 a0 a2 (fWhole_withSign a1 a3)))
def fConversions_lowestWithSign (a0 : Int32) (a1 : Int64) : Int64 :=
  (if a0 = 192 then a1.toInt32.toInt8.toInt32.toInt64 else (if a0 = 193 then a1.toInt32.toInt16.toInt32.toInt64 else (if a0 = 194 then a1.toInt32.toInt8.toInt32.toInt64 else (if a0 = 195 then a1.toInt32.toInt16.toInt32.toInt64 else a1.toInt32.toInt64))))
def fConversions_result_75 (a1 : Int32) (a2 : Int32) (a3 : Int64) : Int64 :=
  (fConversions_otherFormat (fFormat_of a1) (fFormat_of a2) a3)
def fConversions_result_48 (a0 : Int32) (a1 : Int32) (a2 : Int32) (a3 : Int64) : Int64 :=
  (if a0 = 172 then (fWhole_withSign a1 a3) else (if a0 = 182 then (fConversions_result_75 a1 a2 a3) else (if a0 = 187 then (fConversions_result_75 a1 a2 a3) else (if 188 ≤ a0 then (fConversions_lowestWithSign a0 a3) else (fConversions_fromWhole (fConversions_isSigned a0) a1 (fFormat_of a2) a3)))))
def fConversions_result_46 (a3 : Int64) : Int64 :=
  a3
def fConversions_result (a0 : Int32) (a1 : Int32) (a2 : Int32) (a3 : Int64) : Int64 :=
  (if (fConversions_isTowardsZero a0) = 0 then (if a0 = 167 then (fConversions_result_46 a3) else (if a0 = 173 then (fConversions_result_46 a3) else (if a0 < 188 then (fConversions_result_48 a0 a1 a2 a3) else (if 191 < a0 then (fConversions_result_48 a0 a1 a2 a3) else (fConversions_result_46 a3))))) else (fConversions_towardsZero a0 (fFormat_of a1) a2 a3))
def fOperators_result_22 (a0 : Int32) (a1 : Int64) (a3 : Int64) (a5 : Int32) (a6 : Int32) (a7 : Int32) : Int64 :=
  (if a5 = 0 then (if (fWhole_test a6 a7 a1 a3) = 0 then 0 else 1) else (if a5 = 1 then (if (fWhole_test a6 a7 a1 a3) = 0 then 0 else 1) else (if a5 = 2 then (if (fFloating_test a6 (fFormat_of a7) a1 a3) = 0 then 0 else 1) else (if a5 = 3 then (if (fFloating_test a6 (fFormat_of a7) a1 a3) = 0 then 0 else 1) else (if a5 = 4 then (fWhole_result a6 a7 a1 a3) else (if a5 = 5 then (fWhole_result a6 a7 a1 a3) else (if a5 = 6 then (fFloating_result a6 (fFormat_of a7) a1 a3) else (if a5 = 7 then (fFloating_result a6 (fFormat_of a7) a1 a3) else (fConversions_result a0 a7 (fOperators_resultType a0) a1)))))))))
def fOperators_result_16 (a0 : Int32) (a1 : Int64) (a3 : Int64) (a5 : Int32) (a6 : Int32) : Int64 :=
  (fOperators_result_22 a0 a1 a3 a5 a6 (fOperators_operandType a0))
def fOperators_result_6 (a0 : Int32) (a1 : Int64) (a3 : Int64) (a5 : Int32) : Int64 :=
  (fOperators_result_16 a0 a1 a3 a5 (a0 - (tb 0 a5.toNatClampNeg)))
def fOperators_result (a0 : Int32) (a1 : Int64) (a3 : Int64) : Int64 :=
  (fOperators_result_6 a0 a1 a3 (fOperators_family a0))
def fFormat_kind (a0 : Nat) (a1 : Int64) : Int32 :=
  (if (fFormat_isNone a0 a1) = 0 then (if (fFormat_isInfinite a0 a1) = 0 then (if (fFormat_isZero a0 a1) = 0 then (if (fFormat_exponent a0 a1) = 0 then 1 else 2) else 0) else 3) else 4)
end
section
theorem pw_zi {c : Prop} [Decidable c] {a b : Int32} (h1 : a = 0 ∨ a = 1) (h2 : b = 0 ∨ b = 1) : (if c then a else b) = 0 ∨ (if c then a else b) = 1 := by
  split <;> assumption
theorem zOperators_exists_34  : fOperators_exists_34 = 0 ∨ fOperators_exists_34 = 1 := by
  unfold fOperators_exists_34
  repeat' (with_reducible refine pw_zi ?_ ?_)
  all_goals first | exact Or.inl rfl | exact Or.inr rfl | assumption

theorem zOperators_exists_30  : fOperators_exists_30 = 0 ∨ fOperators_exists_30 = 1 := by
  unfold fOperators_exists_30
  repeat' (with_reducible refine pw_zi ?_ ?_)
  all_goals first | exact Or.inl rfl | exact Or.inr rfl | assumption | (apply zOperators_exists_34 <;> first | exact Or.inl rfl | exact Or.inr rfl | assumption)

theorem zOperators_exists_16 (a0 : Int32) : fOperators_exists_16 a0 = 0 ∨ fOperators_exists_16 a0 = 1 := by
  unfold fOperators_exists_16
  repeat' (with_reducible refine pw_zi ?_ ?_)
  all_goals first | exact Or.inl rfl | exact Or.inr rfl | assumption | (apply zOperators_exists_30 <;> first | exact Or.inl rfl | exact Or.inr rfl | assumption) | (apply zOperators_exists_34 <;> first | exact Or.inl rfl | exact Or.inr rfl | assumption)

theorem zOperators_exists (a0 : Int32) : fOperators_exists a0 = 0 ∨ fOperators_exists a0 = 1 := by
  unfold fOperators_exists
  repeat' (with_reducible refine pw_zi ?_ ?_)
  all_goals first | exact Or.inl rfl | exact Or.inr rfl | assumption | (apply zOperators_exists_16 <;> first | exact Or.inl rfl | exact Or.inr rfl | assumption) | (apply zOperators_exists_30 <;> first | exact Or.inl rfl | exact Or.inr rfl | assumption) | (apply zOperators_exists_34 <;> first | exact Or.inl rfl | exact Or.inr rfl | assumption)

theorem zConversions_isTowardsZero_35  : fConversions_isTowardsZero_35 = 0 ∨ fConversions_isTowardsZero_35 = 1 := by
  unfold fConversions_isTowardsZero_35
  repeat' (with_reducible refine pw_zi ?_ ?_)
  all_goals first | exact Or.inl rfl | exact Or.inr rfl | assumption

theorem zConversions_isTowardsZero_28 (a0 : Int32) : fConversions_isTowardsZero_28 a0 = 0 ∨ fConversions_isTowardsZero_28 a0 = 1 := by
  unfold fConversions_isTowardsZero_28
  repeat' (with_reducible refine pw_zi ?_ ?_)
  all_goals first | exact Or.inl rfl | exact Or.inr rfl | assumption | (apply zConversions_isTowardsZero_35 <;> first | exact Or.inl rfl | exact Or.inr rfl | assumption)

theorem zConversions_isTowardsZero_14 (a0 : Int32) : fConversions_isTowardsZero_14 a0 = 0 ∨ fConversions_isTowardsZero_14 a0 = 1 := by
  unfold fConversions_isTowardsZero_14
  repeat' (with_reducible refine pw_zi ?_ ?_)
  all_goals first | exact Or.inl rfl | exact Or.inr rfl | assumption | (apply zConversions_isTowardsZero_28 <;> first | exact Or.inl rfl | exact Or.inr rfl | assumption) | (apply zConversions_isTowardsZero_35 <;> first | exact Or.inl rfl | exact Or.inr rfl | assumption)

theorem zConversions_isTowardsZero (a0 : Int32) : fConversions_isTowardsZero a0 = 0 ∨ fConversions_isTowardsZero a0 = 1 := by
  unfold fConversions_isTowardsZero
  repeat' (with_reducible refine pw_zi ?_ ?_)
  all_goals first | exact Or.inl rfl | exact Or.inr rfl | assumption | (apply zConversions_isTowardsZero_14 <;> first | exact Or.inl rfl | exact Or.inr rfl | assumption) | (apply zConversions_isTowardsZero_28 <;> first | exact Or.inl rfl | exact Or.inr rfl | assumption) | (apply zConversions_isTowardsZero_35 <;> first | exact Or.inl rfl | exact Or.inr rfl | assumption)

theorem zFormat_isNone (a0 : Nat) (a1 : Int64) : fFormat_isNone a0 a1 = 0 ∨ fFormat_isNone a0 a1 = 1 := by
  unfold fFormat_isNone
  repeat' (with_reducible refine pw_zi ?_ ?_)
  all_goals first | exact Or.inl rfl | exact Or.inr rfl | assumption

theorem zConversions_isSigned_38 (a1 : Int32) (hz1 : a1 = 0 ∨ a1 = 1) : fConversions_isSigned_38 a1 = 0 ∨ fConversions_isSigned_38 a1 = 1 := by
  unfold fConversions_isSigned_38
  repeat' (with_reducible refine pw_zi ?_ ?_)
  all_goals first | exact Or.inl rfl | exact Or.inr rfl | assumption

theorem zConversions_isSigned_11 (a0 : Int32) (s0 : Int32) (hzs0 : s0 = 0 ∨ s0 = 1) : fConversions_isSigned_11 a0 s0 = 0 ∨ fConversions_isSigned_11 a0 s0 = 1 := by
  unfold fConversions_isSigned_11
  repeat' (with_reducible refine pw_zi ?_ ?_)
  all_goals first | exact Or.inl rfl | exact Or.inr rfl | assumption | (apply zConversions_isSigned_38 <;> first | exact Or.inl rfl | exact Or.inr rfl | assumption)

theorem zConversions_isSigned (a0 : Int32) : fConversions_isSigned a0 = 0 ∨ fConversions_isSigned a0 = 1 := by
  unfold fConversions_isSigned
  repeat' (with_reducible refine pw_zi ?_ ?_)
  all_goals first | exact Or.inl rfl | exact Or.inr rfl | assumption | (apply zConversions_isSigned_11 <;> first | exact Or.inl rfl | exact Or.inr rfl | assumption) | (apply zConversions_isSigned_38 <;> first | exact Or.inl rfl | exact Or.inr rfl | assumption)

theorem zFormat_isNegative (a0 : Nat) (a1 : Int64) : fFormat_isNegative a0 a1 = 0 ∨ fFormat_isNegative a0 a1 = 1 := by
  unfold fFormat_isNegative
  repeat' (with_reducible refine pw_zi ?_ ?_)
  all_goals first | exact Or.inl rfl | exact Or.inr rfl | assumption

theorem zConversions_fits_14 (a3 : Int64) (a5 : Int64) (a7 : Int32) : fConversions_fits_14 a3 a5 a7 = 0 ∨ fConversions_fits_14 a3 a5 a7 = 1 := by
  unfold fConversions_fits_14
  repeat' (with_reducible refine pw_zi ?_ ?_)
  all_goals first | exact Or.inl rfl | exact Or.inr rfl | assumption

theorem zConversions_fits_7 (a0 : Nat) (a1 : Int64) (a3 : Int64) (a5 : Int64) : fConversions_fits_7 a0 a1 a3 a5 = 0 ∨ fConversions_fits_7 a0 a1 a3 a5 = 1 := by
  unfold fConversions_fits_7
  repeat' (with_reducible refine pw_zi ?_ ?_)
  all_goals first | exact Or.inl rfl | exact Or.inr rfl | assumption | (apply zConversions_fits_14 <;> first | exact Or.inl rfl | exact Or.inr rfl | assumption)

theorem zConversions_fits (a0 : Nat) (a1 : Int64) (a3 : Int64) : fConversions_fits a0 a1 a3 = 0 ∨ fConversions_fits a0 a1 a3 = 1 := by
  unfold fConversions_fits
  repeat' (with_reducible refine pw_zi ?_ ?_)
  all_goals first | exact Or.inl rfl | exact Or.inr rfl | assumption | (apply zConversions_fits_7 <;> first | exact Or.inl rfl | exact Or.inr rfl | assumption) | (apply zConversions_fits_14 <;> first | exact Or.inl rfl | exact Or.inr rfl | assumption)

theorem zWhole_test_24 (a0 : Int32) (a2 : Int64) (a4 : Int64) (a6 : Int32) (a7 : Int32) : fWhole_test_24 a0 a2 a4 a6 a7 = 0 ∨ fWhole_test_24 a0 a2 a4 a6 a7 = 1 := by
  unfold fWhole_test_24
  repeat' (with_reducible refine pw_zi ?_ ?_)
  all_goals first | exact Or.inl rfl | exact Or.inr rfl | assumption

theorem zWhole_test_16 (a0 : Int32) (a2 : Int64) (a4 : Int64) (a6 : Int32) : fWhole_test_16 a0 a2 a4 a6 = 0 ∨ fWhole_test_16 a0 a2 a4 a6 = 1 := by
  unfold fWhole_test_16
  repeat' (with_reducible refine pw_zi ?_ ?_)
  all_goals first | exact Or.inl rfl | exact Or.inr rfl | assumption | (apply zWhole_test_24 <;> first | exact Or.inl rfl | exact Or.inr rfl | assumption)

theorem zWhole_test (a0 : Int32) (a1 : Int32) (a2 : Int64) (a4 : Int64) : fWhole_test a0 a1 a2 a4 = 0 ∨ fWhole_test a0 a1 a2 a4 = 1 := by
  unfold fWhole_test
  repeat' (with_reducible refine pw_zi ?_ ?_)
  all_goals first | exact Or.inl rfl | exact Or.inr rfl | assumption | (apply zWhole_test_16 <;> first | exact Or.inl rfl | exact Or.inr rfl | assumption) | (apply zWhole_test_24 <;> first | exact Or.inl rfl | exact Or.inr rfl | assumption)

theorem zFloating_test_44 (a0 : Int32) (a6 : Int32) : fFloating_test_44 a0 a6 = 0 ∨ fFloating_test_44 a0 a6 = 1 := by
  unfold fFloating_test_44
  repeat' (with_reducible refine pw_zi ?_ ?_)
  all_goals first | exact Or.inl rfl | exact Or.inr rfl | assumption | (apply zFormat_isNone <;> first | exact Or.inl rfl | exact Or.inr rfl | assumption)

theorem zFloating_test_17 (a0 : Int32) : fFloating_test_17 a0 = 0 ∨ fFloating_test_17 a0 = 1 := by
  unfold fFloating_test_17
  repeat' (with_reducible refine pw_zi ?_ ?_)
  all_goals first | exact Or.inl rfl | exact Or.inr rfl | assumption | (apply zFloating_test_44 <;> first | exact Or.inl rfl | exact Or.inr rfl | assumption | apply zFormat_isNone) | (apply zFormat_isNone <;> first | exact Or.inl rfl | exact Or.inr rfl | assumption)

theorem zFloating_test (a0 : Int32) (a1 : Nat) (a2 : Int64) (a4 : Int64) : fFloating_test a0 a1 a2 a4 = 0 ∨ fFloating_test a0 a1 a2 a4 = 1 := by
  unfold fFloating_test
  repeat' (with_reducible refine pw_zi ?_ ?_)
  all_goals first | exact Or.inl rfl | exact Or.inr rfl | assumption | (apply zFloating_test_17 <;> first | exact Or.inl rfl | exact Or.inr rfl | assumption | apply zFormat_isNone) | (apply zFloating_test_44 <;> first | exact Or.inl rfl | exact Or.inr rfl | assumption | apply zFormat_isNone) | (apply zFormat_isNone <;> first | exact Or.inl rfl | exact Or.inr rfl | assumption)

theorem zFormat_isZero (a0 : Nat) (a1 : Int64) : fFormat_isZero a0 a1 = 0 ∨ fFormat_isZero a0 a1 = 1 := by
  unfold fFormat_isZero
  repeat' (with_reducible refine pw_zi ?_ ?_)
  all_goals first | exact Or.inl rfl | exact Or.inr rfl | assumption

theorem zFormat_isInfinite (a0 : Nat) (a1 : Int64) : fFormat_isInfinite a0 a1 = 0 ∨ fFormat_isInfinite a0 a1 = 1 := by
  unfold fFormat_isInfinite
  repeat' (with_reducible refine pw_zi ?_ ?_)
  all_goals first | exact Or.inl rfl | exact Or.inr rfl | assumption
end
section
theorem bn_u_or (x y : Int64) : bn_u (x ||| y) = bn_u x ||| bn_u y := by simp [bn_u]
theorem bn_bc_ones : ∀ n : Nat, n < 65 → fLong_bitCount (Int64.ofNat (2^n - 1)) = Int32.ofNat n := by decide +kernel
def bn_fill (s L x : Nat) : Prop := x < 2^L ∧ ∀ i, i < L → L ≤ i + s → x.testBit i = true
theorem bn_fill_next {s L x : Nat} (h : bn_fill s L x) : bn_fill (2*s) L (x ||| x / 2^s) := by
  refine ⟨Nat.or_lt_two_pow h.1 (Nat.lt_of_le_of_lt (Nat.div_le_self _ _) h.1), fun i h1 h2 => ?_⟩
  rw [Nat.testBit_or, Nat.testBit_div_two_pow]
  by_cases q : L ≤ i + s
  · rw [h.2 i h1 q]; rfl
  · rw [h.2 (i + s) (by omega) (by omega)]; simp
theorem bn_fill_first {x : Nat} : bn_fill 1 (bn_len x) x := by
  refine ⟨bn_len_lt x, fun i h1 h2 => ?_⟩
  have e : i = bn_len x - 1 := by omega
  have hx : 0 < x := by
    rcases Nat.eq_zero_or_pos x with q | q
    · subst q; rw [bn_len_zero] at h1; omega
    · exact q
  have h3 := bn_len_ge hx
  have h4 := bn_len_lt x
  rw [e]
  rw [show bn_len x = bn_len x - 1 + 1 by omega] at h4
  exact Nat.testBit_of_two_pow_le_and_two_pow_add_one_gt h3 h4
theorem bn_fill_all {s L x : Nat} (h : bn_fill s L x) (hs : L ≤ s) : x = 2^L - 1 := by
  apply Nat.eq_of_testBit_eq
  intro i
  rw [Nat.testBit_two_pow_sub_one]
  by_cases q : i < L
  · rw [h.2 i q (by omega)]; simp [q]
  · rw [Nat.testBit_lt_two_pow (Nat.lt_of_lt_of_le h.1 (Nat.pow_le_pow_right (by decide) (by omega)))]; simp [q]

theorem bn_u_ofNat {n : Nat} (h : n < 2^64) : bn_u (Int64.ofNat n) = n := by
  show (BitVec.ofNat 64 n).toNat = n
  rw [BitVec.toNat_ofNat]; exact Nat.mod_eq_of_lt h
theorem bn_shr_lit (x : Int64) (y : Int32) (k : Nat) (h : (y.toInt % 64).toNat = k) : bn_u (bn_shr x y) = bn_u x / 2^k := by
  rw [bn_u_shr, h]
theorem bn_fill_step {s L : Nat} {x : Int64} (y : Int32) (h : bn_fill s L (bn_u x)) (hy : (y.toInt % 64).toNat = s) : bn_fill (2*s) L (bn_u (x ||| bn_shr x y)) := by
  rw [bn_u_or, bn_shr_lit _ _ _ hy]; exact bn_fill_next h
theorem bn_length (x : Int64) : fWhole_length x = Int32.ofNat (bn_len (bn_u x)) := by
  have h0 := bn_fill_first (x := bn_u x)
  have h1 := bn_fill_step 1 h0 (by decide)
  have h2 := bn_fill_step 2 h1 (by decide)
  have h3 := bn_fill_step 4 h2 (by decide)
  have h4 := bn_fill_step 8 h3 (by decide)
  have h5 := bn_fill_step 16 h4 (by decide)
  have h6 := bn_fill_step 32 h5 (by decide)
  have hL : bn_len (bn_u x) ≤ 64 := bn_len_le.mpr (bn_u_lt x)
  have h7 := bn_fill_all h6 (by omega)
  simp only [fWhole_length, fWhole_length_5, fWhole_length_19]
  rw [if_neg (by decide), if_neg (by decide), if_neg (by decide), if_neg (by decide), if_neg (by decide), if_neg (by decide), if_pos (by decide)]
  rw [← bn_bc_ones _ (show bn_len (bn_u x) < 65 by omega)]
  congr 1
  apply bn_u_inj
  rw [bn_u_ofNat]
  · exact h7
  · exact Nat.lt_of_lt_of_le (Nat.sub_lt (Nat.two_pow_pos _) (by decide)) (Nat.pow_le_pow_right (by decide) hL)

theorem bn_u_add (x y : Int64) : bn_u (x + y) = (bn_u x + bn_u y) % 2^64 := by
  simp [bn_u, Int64.toBitVec_add, BitVec.toNat_add]
theorem bn_u_sub (x y : Int64) : bn_u (x - y) = (2^64 - bn_u y + bn_u x) % 2^64 := by
  simp [bn_u, Int64.toBitVec_sub, BitVec.toNat_sub]
theorem bn_u_mul (x y : Int64) : bn_u (x * y) = (bn_u x * bn_u y) % 2^64 := by
  simp [bn_u, Int64.toBitVec_mul, BitVec.toNat_mul]
theorem bn_u_and (x y : Int64) : bn_u (x &&& y) = bn_u x &&& bn_u y := by simp [bn_u]
theorem bn_u_xor (x y : Int64) : bn_u (x ^^^ y) = bn_u x ^^^ bn_u y := by simp [bn_u]
theorem bn_u_neg (x : Int64) : bn_u (-x) = (2^64 - bn_u x) % 2^64 := by
  simp [bn_u, Int64.toBitVec_neg, BitVec.toNat_neg]
theorem bn_u_zero {x : Int64} : x = 0 ↔ bn_u x = 0 := ⟨fun h => by rw [h]; rfl, fun h => bn_u_inj (by rw [h]; rfl)⟩
theorem bn_u_eq {x y : Int64} : x = y ↔ bn_u x = bn_u y := ⟨fun h => by rw [h], bn_u_inj⟩
theorem bn_s_pos {x : Int64} (h : bn_u x < 2^63) : x.toInt = bn_u x := by rw [bn_s_u, if_pos h]
theorem bn_lt {x y : Int64} (hx : bn_u x < 2^63) (hy : bn_u y < 2^63) : x < y ↔ bn_u x < bn_u y := by
  rw [Int64.lt_iff_toInt_lt, bn_s_pos hx, bn_s_pos hy]; omega
theorem bn_le {x y : Int64} (hx : bn_u x < 2^63) (hy : bn_u y < 2^63) : x ≤ y ↔ bn_u x ≤ bn_u y := by
  rw [Int64.le_iff_toInt_le, bn_s_pos hx, bn_s_pos hy]; omega
theorem bn_i_add {a b : Int32} (h : -2^31 ≤ a.toInt + b.toInt ∧ a.toInt + b.toInt < 2^31) : (a + b).toInt = a.toInt + b.toInt := by
  rw [Int32.toInt_add, Int.bmod_eq_of_le] <;> omega
theorem bn_i_sub {a b : Int32} (h : -2^31 ≤ a.toInt - b.toInt ∧ a.toInt - b.toInt < 2^31) : (a - b).toInt = a.toInt - b.toInt := by
  rw [Int32.toInt_sub, Int.bmod_eq_of_le] <;> omega
theorem bn_i_neg {a : Int32} (h : -2^31 < a.toInt) : (-a).toInt = -a.toInt := by
  have := a.toInt_lt
  rw [Int32.toInt_neg, Int.bmod_eq_of_le] <;> omega
theorem bn_i_ofNat {n : Nat} (h : n < 2^31) : (Int32.ofNat n).toInt = n := Int32.toInt_ofNat_of_lt h
theorem bn_nearest_low (m : Int64) (d : Int32) (h : d.toInt ≤ 0) : fFormat_nearest m d = m := by
  have h1 : d ≤ 0 := by rw [Int32.le_iff_toInt_le]; exact h
  have h2 : ¬ 0 < d := by rw [Int32.lt_iff_toInt_lt]; exact fun q => by have : (0 : Int32).toInt = 0 := rfl; omega
  unfold fFormat_nearest
  rw [if_pos h1, fFormat_nearest_10, if_neg h2]
theorem bn_nearest_high (m : Int64) (d : Int32) (h : 63 < d.toInt) : fFormat_nearest m d = 0 := by
  have z : (0 : Int32).toInt = 0 := rfl
  have z2 : (63 : Int32).toInt = 63 := rfl
  have h1 : ¬ d ≤ 0 := by rw [Int32.le_iff_toInt_le]; omega
  have h2 : 0 < d := by rw [Int32.lt_iff_toInt_lt]; omega
  have h3 : ¬ d ≤ 63 := by rw [Int32.le_iff_toInt_le]; omega
  unfold fFormat_nearest
  rw [if_neg h1, if_neg h3, fFormat_nearest_10, if_pos h2]
theorem bn_nearest (m : Int64) (d : Int32) (D : Nat) (h : d.toInt = D) (h1 : 1 ≤ D) (h2 : D ≤ 63) : bn_u (fFormat_nearest m d) = bn_rne (bn_u m) D := by
  have z : (0 : Int32).toInt = 0 := rfl
  have z2 : (63 : Int32).toInt = 63 := rfl
  have z1 : (1 : Int32).toInt = 1 := rfl
  have i1 : ¬ d ≤ 0 := by rw [Int32.le_iff_toInt_le]; omega
  have i3 : d ≤ 63 := by rw [Int32.le_iff_toInt_le]; omega
  have hd : (d.toInt % 64).toNat = D := by omega
  have hm := bn_u_lt m
  have hp := Nat.two_pow_pos D
  have k1 : bn_u (bn_shr m d) = bn_u m / 2^D := by rw [bn_u_shr, hd]
  have hdm := Nat.div_add_mod (bn_u m) (2^D)
  have hr := Nat.mod_lt (bn_u m) hp
  have hD : 2^D ≤ 2^63 := Nat.pow_le_pow_right (by decide) h2
  have k2 : bn_u (bn_shl (bn_shr m d) d) = bn_u m / 2^D * 2^D := by
    rw [bn_u_shl, hd, k1]; apply Nat.mod_eq_of_lt
    exact Nat.lt_of_le_of_lt (Nat.div_mul_le_self _ _) hm
  have k3 : bn_u (m - bn_shl (bn_shr m d) d) = bn_u m % 2^D := by
    rw [bn_u_sub, k2]; rw [Nat.mul_comm] at hdm; omega
  have hd1 : ((d - 1).toInt % 64).toNat = D - 1 := by
    rw [bn_i_sub (by rw [h, z1]; omega), h, z1]; omega
  have hD2 : 2^D = 2 * 2^(D-1) := by rw [← Nat.pow_succ']; congr 1; omega
  have k4 : bn_u (bn_shl 1 (d - 1)) = 2^(D-1) := by
    rw [bn_u_shl, hd1, show bn_u 1 = 1 from rfl, Nat.one_mul]; apply Nat.mod_eq_of_lt; omega
  have k5 : ((bn_shr m d &&& 1) = 0) ↔ bn_u m / 2^D % 2 = 0 := by
    rw [bn_u_zero, bn_u_and, k1, show bn_u 1 = 1 from rfl, Nat.and_one_is_mod]
  have k6 : bn_u (bn_shr m d + 1) = bn_u m / 2^D + 1 := by
    rw [bn_u_add, k1, show bn_u 1 = 1 from rfl]; apply Nat.mod_eq_of_lt
    have : bn_u m / 2^D ≤ bn_u m / 2^1 := Nat.div_le_div_left (Nat.pow_le_pow_right (by decide) h1) (by decide)
    omega
  unfold fFormat_nearest
  rw [if_neg i1, if_pos i3]
  simp only [fFormat_nearest_24, fFormat_nearest_31, fFormat_nearest_38, fFormat_nearest_62, fFormat_nearest_66, fFormat_nearest_67]
  have b3 : bn_u (m - bn_shl (bn_shr m d) d) < 2^63 := by omega
  have b4 : bn_u (bn_shl 1 (d - 1)) < 2^63 := by omega
  have c1 : (bn_shl 1 (d - 1) < m - bn_shl (bn_shr m d) d) ↔ 2^D < 2 * (bn_u m % 2^D) := by
    rw [bn_lt b4 b3, k3, k4]; omega
  have c2 : (m - bn_shl (bn_shr m d) d = bn_shl 1 (d - 1)) ↔ 2 * (bn_u m % 2^D) = 2^D := by
    rw [bn_u_eq, k3, k4]; omega
  unfold bn_rne
  by_cases q1 : 2^D < 2 * (bn_u m % 2^D)
  · rw [if_pos (c1.mpr q1), if_neg (by decide), k6, if_pos (Or.inl q1)]
  · rw [if_neg (fun w => q1 (c1.mp w))]
    by_cases q2 : 2 * (bn_u m % 2^D) = 2^D
    · rw [if_pos (c2.mpr q2)]
      by_cases q3 : bn_u m / 2^D % 2 = 0
      · rw [if_pos (k5.mpr q3), if_pos trivial, k1, if_neg (by omega), Nat.add_zero]
      · rw [if_neg (fun w => q3 (k5.mp w)), if_neg (by decide), k6, if_pos (by omega)]
    · rw [if_neg (fun w => q2 (c2.mp w)), if_pos trivial, k1, if_neg (by omega), Nat.add_zero]
end
section
def bn_P (k : Nat) : Nat := if k = 0 then 24 else 53
def bn_mn (k : Nat) : Int := if k = 0 then -149 else -1074
def bn_E (k : Nat) : Nat := if k = 0 then 255 else 2047
def bn_INF (k : Nat) : Nat := bn_E k * 2^(bn_P k - 1)
theorem bn_places (k : Nat) : (fm_places k).toInt = bn_P k := by unfold fm_places bn_P; split <;> rfl
theorem bn_least (k : Nat) : (fm_leastScale k).toInt = bn_mn k := by unfold fm_leastScale bn_mn; split <;> rfl
theorem bn_great (k : Nat) : (fm_greatestExponent k).toInt = bn_E k := by unfold fm_greatestExponent bn_E; split <;> rfl
theorem bn_inf (k : Nat) : fm_infinite k = Int64.ofNat (bn_INF k) := by unfold fm_infinite bn_INF bn_E bn_P; split <;> rfl
theorem bn_i_max (a b : Int32) : (fMath_max a b).toInt = max a.toInt b.toInt := by
  unfold fMath_max
  split
  · next h => rw [Int32.lt_iff_toInt_lt] at h; omega
  · next h => rw [Int32.lt_iff_toInt_lt] at h; omega
theorem bn_i_min (a b : Int32) : (fMath_min a b).toInt = min a.toInt b.toInt := by
  unfold fMath_min
  split
  · next h => rw [Int32.lt_iff_toInt_lt] at h; omega
  · next h => rw [Int32.lt_iff_toInt_lt] at h; omega
theorem bn_rne_le {m d : Nat} : bn_rne m d ≤ m / 2^d + 1 := by unfold bn_rne; split <;> omega
theorem bn_rne_ge {m d : Nat} : m / 2^d ≤ bn_rne m d := by unfold bn_rne; split <;> omega
def bn_kept (P : Nat) (mn : Int) (m : Nat) (e : Int) : Nat := if bn_ns P mn m e ≤ e then m * 2^(e - bn_ns P mn m e).toNat else bn_rne m (bn_ns P mn m e - e).toNat
theorem bn_kept_le {P : Nat} {mn : Int} {m : Nat} {e : Int} (hm : 0 < m) (hP : 0 < P) : bn_kept P mn m e ≤ 2^P := by
  have hL := bn_len_lt m
  have hL0 := bn_len_pos hm
  unfold bn_kept
  have hns : e + bn_len m - P ≤ bn_ns P mn m e := by unfold bn_ns; omega
  split
  · next h =>
    have : m * 2^(e - bn_ns P mn m e).toNat < 2^(bn_len m) * 2^(e - bn_ns P mn m e).toNat := Nat.mul_lt_mul_of_pos_right hL (Nat.two_pow_pos _)
    rw [← Nat.pow_add] at this
    exact Nat.le_of_lt (Nat.lt_of_lt_of_le this (Nat.pow_le_pow_right (by decide) (by omega)))
  · next h =>
    refine Nat.le_trans bn_rne_le ?_
    have : m / 2^(bn_ns P mn m e - e).toNat < 2^P := by
      rw [Nat.div_lt_iff_lt_mul (Nat.two_pow_pos _), ← Nat.pow_add]
      exact Nat.lt_of_lt_of_le hL (Nat.pow_le_pow_right (by decide) (by omega))
    exact this
theorem bn_kept_ge {P : Nat} {mn : Int} {m : Nat} {e : Int} (hm : 0 < m) (hP : 0 < P) (hs : mn < bn_ns P mn m e) : 2^(P-1) ≤ bn_kept P mn m e := by
  have hL := bn_len_ge hm
  have hL0 := bn_len_pos hm
  have hns : e + bn_len m - P = bn_ns P mn m e := by unfold bn_ns at hs ⊢; omega
  unfold bn_kept
  split
  · next h =>
    have : 2^(bn_len m - 1) * 2^(e - bn_ns P mn m e).toNat ≤ m * 2^(e - bn_ns P mn m e).toNat := Nat.mul_le_mul_right _ hL
    rw [← Nat.pow_add] at this
    exact Nat.le_trans (Nat.pow_le_pow_right (by decide) (by omega)) this
  · next h =>
    refine Nat.le_trans ?_ bn_rne_ge
    rw [Nat.le_div_iff_mul_le (Nat.two_pow_pos _), ← Nat.pow_add]
    exact Nat.le_trans (Nat.pow_le_pow_right (by decide) (by omega)) hL
theorem bn_rounded (k : Nat) (neg : Int32) (m : Int64) (e : Int32) (hm : m ≠ 0) (he : -4000 ≤ e.toInt ∧ e.toInt ≤ 4000)
    (hc : bn_u m < 2^63 ∨ bn_ns (bn_P k) (bn_mn k) (bn_u m) e.toInt - e.toInt ≤ 63) :
    fFormat_rounded k neg m e = fFormat_signed k neg (Int64.ofNat (min (bn_rn (bn_P k) (bn_mn k) (bn_u m) e.toInt) (bn_INF k))) := by
  have hm0 : 0 < bn_u m := by
    rcases Nat.eq_zero_or_pos (bn_u m) with q | q
    · exact absurd (bn_u_zero.mpr q) hm
    · exact q
  have hL : bn_len (bn_u m) ≤ 64 := bn_len_le.mpr (bn_u_lt m)
  have hL0 := bn_len_pos hm0
  have hPk : bn_P k = 24 ∨ bn_P k = 53 := by unfold bn_P; split <;> simp
  have hmk : -1074 ≤ bn_mn k ∧ bn_mn k ≤ -149 := by unfold bn_mn; split <;> omega
  have hEk : 255 ≤ bn_E k ∧ bn_E k ≤ 2047 := by unfold bn_E; split <;> omega
  have hlen : (fWhole_length m).toInt = bn_len (bn_u m) := by rw [bn_length, bn_i_ofNat (by omega)]
  unfold fFormat_rounded
  rw [if_neg hm]
  unfold fFormat_rounded_19 fFormat_rounded_38 fFormat_rounded_47
  have hpl := bn_places k
  have hle := bn_least k
  have hgr := bn_great k
  have s1 : (e + fWhole_length m - fm_places k).toInt = e.toInt + bn_len (bn_u m) - bn_P k := by
    have s0 : (e + fWhole_length m).toInt = e.toInt + bn_len (bn_u m) := by rw [bn_i_add] <;> omega
    rw [bn_i_sub] <;> omega
  have s2 : (fMath_max (e + fWhole_length m - fm_places k) (fm_leastScale k)).toInt = bn_ns (bn_P k) (bn_mn k) (bn_u m) e.toInt := by
    rw [bn_i_max, s1, hle]; rfl
  generalize fMath_max (e + fWhole_length m - fm_places k) (fm_leastScale k) = ns at s2 ⊢
  have hb : bn_mn k ≤ bn_ns (bn_P k) (bn_mn k) (bn_u m) e.toInt ∧ bn_ns (bn_P k) (bn_mn k) (bn_u m) e.toInt ≤ 4064 := by unfold bn_ns; omega
  have hkl := bn_kept_le (P := bn_P k) (mn := bn_mn k) (e := e.toInt) hm0 (by omega)
  have hkg := bn_kept_ge (P := bn_P k) (mn := bn_mn k) (e := e.toInt) hm0 (by omega)
  have hrn : bn_rn (bn_P k) (bn_mn k) (bn_u m) e.toInt = (bn_ns (bn_P k) (bn_mn k) (bn_u m) e.toInt - bn_mn k).toNat * 2^(bn_P k - 1) + bn_kept (bn_P k) (bn_mn k) (bn_u m) e.toInt := rfl
  have hkd : bn_kept (bn_P k) (bn_mn k) (bn_u m) e.toInt = if bn_ns (bn_P k) (bn_mn k) (bn_u m) e.toInt ≤ e.toInt then bn_u m * 2^(e.toInt - bn_ns (bn_P k) (bn_mn k) (bn_u m) e.toInt).toNat else bn_rne (bn_u m) (bn_ns (bn_P k) (bn_mn k) (bn_u m) e.toInt - e.toInt).toNat := rfl
  rw [hrn]
  have hP2 : 2^bn_P k = 2 * 2^(bn_P k - 1) := by rw [← Nat.pow_succ']; congr 1; omega
  generalize hKK : bn_kept (bn_P k) (bn_mn k) (bn_u m) e.toInt = KK at *
  generalize hNN : bn_ns (bn_P k) (bn_mn k) (bn_u m) e.toInt = NN at *
  have s3 : (ns - fm_leastScale k).toInt = NN - bn_mn k := by rw [bn_i_sub] <;> omega
  have z1 : (1 : Int32).toInt = 1 := rfl
  have z0 : (0 : Int32).toInt = 0 := rfl
  have s4 : (fm_greatestExponent k - 1).toInt = bn_E k - 1 := by rw [bn_i_sub] <;> omega
  have hI : bn_INF k = bn_E k * 2^(bn_P k - 1) := rfl
  by_cases hst : ns - fm_leastScale k < fm_greatestExponent k - 1
  · rw [if_pos hst]
    rw [Int32.lt_iff_toInt_lt, s3, s4] at hst
    have hq : (NN - bn_mn k).toNat + 2 ≤ bn_E k := by omega
    have hmul := Nat.mul_le_mul_right (2^(bn_P k - 1)) hq
    rw [Nat.add_mul] at hmul
    rw [Nat.min_eq_left (by rw [hI]; omega)]
    unfold fFormat_rounded_75 fFormat_rounded_94 fFormat_rounded_96
    have s5 : (ns - e).toInt = NN - e.toInt := by rw [bn_i_sub] <;> omega
    have hEP : bn_E k * 2^(bn_P k - 1) < 2^63 := by unfold bn_E bn_P; split <;> decide
    have sum : ∀ kk : Int64, bn_u kk = KK → bn_shl (ns - fm_leastScale k).toInt64 (fm_places k - 1) + kk = Int64.ofNat ((NN - bn_mn k).toNat * 2^(bn_P k - 1) + KK) := by
      intro kk hkk
      apply bn_u_inj
      rw [bn_u_ofNat (by omega), bn_u_add, hkk, bn_u_shl]
      have e1 : ((fm_places k - 1).toInt % 64).toNat = bn_P k - 1 := by rw [bn_i_sub] <;> omega
      have e2 : bn_u (ns - fm_leastScale k).toInt64 = (NN - bn_mn k).toNat := by
        have := bn_u_i2l (ns - fm_leastScale k)
        rw [s3] at this; omega
      rw [e1, e2, Nat.mod_eq_of_lt (a := (NN - bn_mn k).toNat * 2^(bn_P k - 1)) (by omega), Nat.mod_eq_of_lt (by omega)]
    by_cases hd : (0 : Int32) ≤ ns - e
    · rw [if_pos hd]
      rw [Int32.le_iff_toInt_le, s5, z0] at hd
      rw [sum]
      rw [hkd]
      by_cases hd0 : NN ≤ e.toInt
      · rw [if_pos hd0, bn_nearest_low _ _ (by omega), show (e.toInt - NN).toNat = 0 by omega, Nat.pow_zero, Nat.mul_one]
      · rw [if_neg hd0]
        by_cases h63 : NN - e.toInt ≤ 63
        · exact bn_nearest _ _ _ (by omega) (by omega) (by omega)
        · rw [bn_nearest_high _ _ (by omega)]
          have hu : bn_u m < 2^63 := by rcases hc with q | q; exact q; exact absurd q h63
          have hp : 2^64 ≤ 2^(NN - e.toInt).toNat := Nat.pow_le_pow_right (by decide) (by omega)
          show 0 = _
          unfold bn_rne
          rw [Nat.div_eq_of_lt (by omega), Nat.mod_eq_of_lt (by omega), if_neg (by omega)]
    · rw [if_neg hd]
      rw [Int32.le_iff_toInt_le, s5, z0] at hd
      rw [sum]
      rw [hkd, if_pos (by omega), bn_u_shl]
      have e3 : ((-(ns - e)).toInt % 64).toNat = (e.toInt - NN).toNat := by
        rw [bn_i_neg (by omega), s5]
        have : e.toInt - NN ≤ 52 := by
          rw [← hNN]; unfold bn_ns; omega
        omega
      rw [e3]
      apply Nat.mod_eq_of_lt
      rw [hkd, if_pos (by omega)] at hkl
      rcases hPk with q | q <;> rw [q] at hkl <;> omega
  · rw [if_neg hst]
    rw [Int32.lt_iff_toInt_lt, s3, s4] at hst
    have hkg' := hkg (by omega)
    have hq : bn_E k ≤ (NN - bn_mn k).toNat + 1 := by omega
    have hmul := Nat.mul_le_mul_right (2^(bn_P k - 1)) hq
    rw [Nat.add_mul] at hmul
    rw [Nat.min_eq_right (by rw [hI]; omega), bn_inf]

def bn_W (k : Nat) : Nat := if k = 0 then 32 else 64
def bn_mag (k : Nat) (x : Int64) : Nat := bn_u x % 2^(bn_W k - 1)
def bn_sg (k : Nat) (x : Int64) : Nat := bn_u x / 2^(bn_W k - 1)
def bn_ok (k : Nat) (x : Int64) : Prop := bn_u x < 2^bn_W k
theorem bn_signBit (k : Nat) : bn_u (fm_signBit k) = 2^(bn_W k - 1) := by unfold fm_signBit bn_W; split <;> rfl
theorem bn_leading (k : Nat) : bn_u (fm_leadingBit k) = 2^(bn_P k - 1) := by unfold fm_leadingBit bn_P; split <;> rfl
theorem bn_and_mask (x n : Nat) : x &&& (2^n - 1) = x % 2^n := Nat.and_two_pow_sub_one_eq_mod x n
theorem bn_mag_and (k : Nat) (x : Int64) (h : bn_ok k x) : bn_u (x &&& (fm_signBit k ^^^ (-1))) = bn_mag k x := by
  rw [bn_u_and]
  unfold bn_ok bn_W at h
  unfold bn_mag bn_W fm_signBit
  split at h
  · next hk =>
    subst hk
    rw [if_pos rfl, if_pos rfl]
    have e : bn_u (2147483648 ^^^ (-1)) = 18446744071562067967 := by decide
    rw [e]
    apply Nat.eq_of_testBit_eq
    intro i
    rw [Nat.testBit_and, Nat.testBit_mod_two_pow]
    by_cases q : i < 31
    · have : Nat.testBit 18446744071562067967 i = true := by
        revert q; revert i; decide
      rw [this]; simp [q]
    · by_cases q2 : i < 32
      · have : i = 31 := by omega
        subst this
        simp; intro _; decide
      · rw [Nat.testBit_lt_two_pow (x := bn_u x) (Nat.lt_of_lt_of_le h (Nat.pow_le_pow_right (by decide) (by omega)))]
        simp
  · next hk =>
    rw [if_neg hk, if_neg hk]
    have e : bn_u (-9223372036854775808 ^^^ (-1)) = 2^63 - 1 := by decide
    rw [e, bn_and_mask]
theorem bn_magnitude (k : Nat) (x : Int64) (h : bn_ok k x) : bn_u (fFormat_magnitude k x) = bn_mag k x := bn_mag_and k x h
theorem bn_mag_lt (k : Nat) (x : Int64) : bn_mag k x < 2^(bn_W k - 1) := Nat.mod_lt _ (Nat.two_pow_pos _)
theorem bn_W_le (k : Nat) : bn_W k - 1 ≤ 63 := by unfold bn_W; split <;> decide
theorem bn_mag_lt63 (k : Nat) (x : Int64) : bn_mag k x < 2^63 := Nat.lt_of_lt_of_le (bn_mag_lt k x) (Nat.pow_le_pow_right (by decide) (bn_W_le k))
theorem bn_sg_le (k : Nat) (x : Int64) (h : bn_ok k x) : bn_sg k x ≤ 1 := by
  unfold bn_sg; unfold bn_ok at h
  have : 2^bn_W k = 2 * 2^(bn_W k - 1) := by rw [← Nat.pow_succ']; congr 1; unfold bn_W; split <;> rfl
  have := (Nat.div_lt_iff_lt_mul (x := bn_u x) (k := 2^(bn_W k - 1)) (y := 2) (Nat.two_pow_pos _)).mpr (by omega)
  omega
theorem bn_u_split (k : Nat) (x : Int64) : bn_u x = bn_sg k x * 2^(bn_W k - 1) + bn_mag k x := by
  unfold bn_sg bn_mag; rw [Nat.mul_comm]; exact (Nat.div_add_mod _ _).symm
theorem bn_inf_u (k : Nat) : bn_u (fm_infinite k) = bn_INF k := by unfold fm_infinite bn_INF bn_E bn_P; split <;> rfl
theorem bn_INF_lt (k : Nat) : bn_INF k < 2^(bn_W k - 1) := by unfold bn_INF bn_E bn_P bn_W; split <;> decide
theorem bn_isNone (k : Nat) (x : Int64) (h : bn_ok k x) : fFormat_isNone k x = if bn_mag k x ≤ bn_INF k then 0 else 1 := by
  unfold fFormat_isNone
  have h1 := bn_mag_and k x h
  have : (x &&& (fm_signBit k ^^^ (-1)) ≤ fm_infinite k) ↔ bn_mag k x ≤ bn_INF k := by
    rw [bn_le, h1, bn_inf_u]
    · rw [h1]; exact bn_mag_lt63 k x
    · rw [bn_inf_u]; exact Nat.lt_of_lt_of_le (bn_INF_lt k) (Nat.pow_le_pow_right (by decide) (bn_W_le k))
  simp only [this]
theorem bn_isInfinite (k : Nat) (x : Int64) (h : bn_ok k x) : fFormat_isInfinite k x = if bn_mag k x = bn_INF k then 1 else 0 := by
  unfold fFormat_isInfinite
  have h1 := bn_mag_and k x h
  have : (x &&& (fm_signBit k ^^^ (-1)) = fm_infinite k) ↔ bn_mag k x = bn_INF k := by
    rw [bn_u_eq, h1, bn_inf_u]
  simp only [this]
theorem bn_isZero (k : Nat) (x : Int64) (h : bn_ok k x) : fFormat_isZero k x = if bn_mag k x = 0 then 1 else 0 := by
  unfold fFormat_isZero
  have h1 := bn_mag_and k x h
  have : (x &&& (fm_signBit k ^^^ (-1)) = 0) ↔ bn_mag k x = 0 := by
    rw [bn_u_zero, h1]
  simp only [this]
theorem bn_and_pow (x n : Nat) : x &&& 2^n = x / 2^n % 2 * 2^n := by
  apply Nat.eq_of_testBit_eq
  intro i
  rw [Nat.testBit_and, Nat.testBit_two_pow]
  rw [show x / 2^n % 2 = x / 2^n % 2^1 from rfl, Nat.mul_comm, Nat.testBit_two_pow_mul, Nat.testBit_mod_two_pow, Nat.testBit_div_two_pow]
  by_cases q : n = i
  · subst q; simp
  · by_cases q2 : i ≥ n
    · have : ¬ i - n < 1 := by omega
      simp [q, this]
    · simp [q, q2]
theorem bn_isNegative (k : Nat) (x : Int64) (h : bn_ok k x) : fFormat_isNegative k x = if bn_sg k x = 0 then 0 else 1 := by
  unfold fFormat_isNegative
  have h1 := bn_sg_le k x h
  have : (x &&& fm_signBit k = 0) ↔ bn_sg k x = 0 := by
    rw [bn_u_zero, bn_u_and, bn_signBit, bn_and_pow]
    have hp := Nat.two_pow_pos (bn_W k - 1)
    show bn_sg k x % 2 * _ = 0 ↔ _
    rcases Nat.lt_or_ge (bn_sg k x) 1 with q | q
    · have : bn_sg k x = 0 := by omega
      rw [this]; simp
    · have : bn_sg k x = 1 := by omega
      rw [this]; omega
  simp only [this]

def bn_ex (k : Nat) (x : Int64) : Nat := bn_mag k x / 2^(bn_P k - 1)
def bn_M (k : Nat) (x : Int64) : Nat := if bn_ex k x = 0 then bn_mag k x else 2^(bn_P k - 1) + bn_mag k x % 2^(bn_P k - 1)
def bn_S (k : Nat) (x : Int64) : Int := bn_mn k + (max (bn_ex k x) 1 : Nat) - 1
def bn_v (x : Int32) : Nat := x.toBitVec.toNat
theorem bn_v_l2i (x : Int64) : bn_v x.toInt32 = bn_u x % 2^32 := by
  show (x.toBitVec.signExtend 32).toNat = _
  rw [BitVec.signExtend_eq_setWidth_of_le _ (by decide), BitVec.toNat_setWidth]; rfl
theorem bn_v_and (x y : Int32) : bn_v (x &&& y) = bn_v x &&& bn_v y := by simp [bn_v]
theorem bn_v_s (x : Int32) : x.toInt = if bn_v x < 2^31 then (bn_v x : Int) else (bn_v x : Int) - 2^32 := by
  have h := BitVec.toInt_eq_toNat_cond x.toBitVec
  rw [Int32.toInt_toBitVec] at h
  rw [h]; unfold bn_v
  have := x.toBitVec.isLt
  split <;> split <;> omega
theorem bn_ex_lt (k : Nat) (x : Int64) : bn_ex k x ≤ bn_E k := by
  have h := bn_mag_lt k x
  unfold bn_ex
  have : bn_mag k x / 2^(bn_P k - 1) < bn_E k + 1 := by
    rw [Nat.div_lt_iff_lt_mul (Nat.two_pow_pos _)]
    refine Nat.lt_of_lt_of_le h ?_
    unfold bn_W bn_E bn_P; split <;> decide
  omega
theorem bn_exponent (k : Nat) (x : Int64) (h : bn_ok k x) : (fFormat_exponent k x).toInt = bn_ex k x := by
  have z1 : (1 : Int32).toInt = 1 := rfl
  have hpl := bn_places k
  have hPk : bn_P k = 24 ∨ bn_P k = 53 := by unfold bn_P; split <;> simp
  have e1 : ((fm_places k - 1).toInt % 64).toNat = bn_P k - 1 := by rw [bn_i_sub] <;> omega
  have hv : bn_v (fFormat_exponent k x) = bn_ex k x := by
    unfold fFormat_exponent
    rw [bn_v_and, bn_v_l2i, bn_u_shr, e1]
    unfold bn_ok at h
    unfold bn_ex bn_mag bn_P fm_greatestExponent
    unfold bn_W at h ⊢
    split at h
    · next hk =>
      subst hk
      rw [if_pos rfl, if_pos rfl, if_pos rfl]
      show _ &&& (2^8 - 1) = _
      rw [bn_and_mask]; omega
    · next hk =>
      rw [if_neg hk, if_neg hk, if_neg hk]
      show _ &&& (2^11 - 1) = _
      rw [bn_and_mask]; omega
  have := bn_ex_lt k x
  have hEk : bn_E k ≤ 2047 := by unfold bn_E; split <;> omega
  rw [bn_v_s, hv, if_pos (by omega)]
theorem bn_scale (k : Nat) (x : Int64) (h : bn_ok k x) : (fFormat_scale k x).toInt = bn_S k x := by
  have he := bn_exponent k x h
  have hl := bn_least k
  have hb := bn_ex_lt k x
  have hEk : bn_E k ≤ 2047 := by unfold bn_E; split <;> omega
  have hmk : -1074 ≤ bn_mn k ∧ bn_mn k ≤ -149 := by unfold bn_mn; split <;> omega
  have z1 : (1 : Int32).toInt = 1 := rfl
  unfold fFormat_scale bn_S
  have h1 : (fMath_max (fFormat_exponent k x) 1).toInt = (max (bn_ex k x) 1 : Nat) := by rw [bn_i_max, he, z1]; omega
  have h2 : (fm_leastScale k + fMath_max (fFormat_exponent k x) 1).toInt = bn_mn k + (max (bn_ex k x) 1 : Nat) := by rw [bn_i_add] <;> omega
  rw [bn_i_sub] <;> omega
theorem bn_signif (k : Nat) (x : Int64) (h : bn_ok k x) : bn_u (fFormat_significand k x) = bn_M k x := by
  have he := bn_exponent k x h
  have h0 : (fFormat_exponent k x = 0) ↔ bn_ex k x = 0 := by
    rw [← Int32.toInt_inj, he]; show (_ : Int) = 0 ↔ _; omega
  have hf : bn_u (x &&& (fm_leadingBit k - 1)) = bn_mag k x % 2^(bn_P k - 1) := by
    have e : bn_u (fm_leadingBit k - 1) = 2^(bn_P k - 1) - 1 := by unfold fm_leadingBit bn_P; split <;> rfl
    rw [bn_u_and, e, bn_and_mask]
    unfold bn_mag
    rw [Nat.mod_mod_of_dvd]
    apply Nat.pow_dvd_pow
    unfold bn_P bn_W; split <;> decide
  unfold fFormat_significand fFormat_significand_9 bn_M
  simp only [h0]
  split
  · next q =>
    rw [hf]; unfold bn_ex at q
    exact Nat.mod_eq_of_lt (by rcases Nat.div_eq_zero_iff.mp q with w | w; exact absurd w (Nat.ne_of_gt (Nat.two_pow_pos _)); exact w)
  · next q =>
    rw [bn_u_or, hf, bn_leading]
    have := Nat.two_pow_add_eq_or_of_lt (i := bn_P k - 1) (b := bn_mag k x % 2^(bn_P k - 1)) (Nat.mod_lt _ (Nat.two_pow_pos _)) 1
    rw [Nat.mul_one] at this
    exact this.symm
theorem bn_M_lt (k : Nat) (x : Int64) : bn_M k x < 2^bn_P k := by
  have hPk : bn_P k = 24 ∨ bn_P k = 53 := by unfold bn_P; split <;> simp
  have hP2 : 2^bn_P k = 2 * 2^(bn_P k - 1) := by rw [← Nat.pow_succ']; congr 1; omega
  have hm := Nat.mod_lt (bn_mag k x) (Nat.two_pow_pos (bn_P k - 1))
  unfold bn_M
  split
  · next q =>
    unfold bn_ex at q
    have : bn_mag k x < 2^(bn_P k - 1) := by rcases Nat.div_eq_zero_iff.mp q with w | w; exact absurd w (Nat.ne_of_gt (Nat.two_pow_pos _)); exact w
    omega
  · omega
theorem bn_M_pos (k : Nat) (x : Int64) (h : bn_mag k x ≠ 0) : 0 < bn_M k x := by
  unfold bn_M
  have := Nat.two_pow_pos (bn_P k - 1)
  split <;> omega
theorem bn_M_ge (k : Nat) (x : Int64) (h : bn_mn k < bn_S k x) : 2^(bn_P k - 1) ≤ bn_M k x := by
  unfold bn_S at h
  unfold bn_M
  rw [if_neg (by omega)]; omega
theorem bn_S_ge (k : Nat) (x : Int64) : bn_mn k ≤ bn_S k x := by unfold bn_S; omega
theorem bn_S_le (k : Nat) (x : Int64) : bn_S k x ≤ bn_mn k + 2046 := by
  have := bn_ex_lt k x
  have hEk : bn_E k ≤ 2047 := by unfold bn_E; split <;> omega
  unfold bn_S; omega
end
section
theorem bn_or_one (x : Nat) : x ||| 1 = x / 2 * 2 + 1 := by
  have h := Nat.two_pow_add_eq_or_of_lt (i := 1) (b := 1) (by decide) (x / 2)
  have h2 : x ||| 1 = 2 ^ 1 * (x / 2) ||| 1 := by
    apply Nat.eq_of_testBit_eq
    intro i
    rw [Nat.testBit_or, Nat.testBit_or, Nat.testBit_two_pow_mul]
    cases i with
    | zero => simp
    | succ n =>
      have : Nat.testBit 1 (n+1) = false := by rw [Nat.testBit_succ]; simp
      rw [this, Nat.testBit_succ]; simp
  rw [h2, ← h]; omega
theorem bn_shl_u {x : Int64} {y : Int32} {k : Nat} (hy : y.toInt = k) (hk : k < 64) (h : bn_u x * 2^k < 2^64) : bn_u (bn_shl x y) = bn_u x * 2^k := by
  rw [bn_u_shl, show (y.toInt % 64).toNat = k by omega, Nat.mod_eq_of_lt h]
theorem bn_shr_u {x : Int64} {y : Int32} {k : Nat} (hy : y.toInt = k) (hk : k < 64) : bn_u (bn_shr x y) = bn_u x / 2^k := by
  rw [bn_u_shr, show (y.toInt % 64).toNat = k by omega]
theorem bn_add_u {x y : Int64} (h : bn_u x + bn_u y < 2^64) : bn_u (x + y) = bn_u x + bn_u y := by
  rw [bn_u_add, Nat.mod_eq_of_lt h]
theorem bn_mul_u {x y : Int64} (h : bn_u x * bn_u y < 2^64) : bn_u (x * y) = bn_u x * bn_u y := by
  rw [bn_u_mul, Nat.mod_eq_of_lt h]
theorem bn_sub_u {x y : Int64} (h : bn_u y ≤ bn_u x) : bn_u (x - y) = bn_u x - bn_u y := by
  have := bn_u_lt x
  rw [bn_u_sub]; omega
theorem bn_mul_lt {a b A B : Nat} (ha : a < A) (hb : b < B) : a * b < A * B := Nat.mul_lt_mul_of_lt_of_lt ha hb
theorem bn_highProduct (x y : Int64) (hx : bn_u x < 2^62) (hy : bn_u y < 2^62) : bn_u (fFloating_highProduct x y) = bn_u x * bn_u y / 2^64 := by
  simp only [fFloating_highProduct, fFloating_highProduct_7, fFloating_highProduct_14, fFloating_highProduct_20, fFloating_highProduct_26, fFloating_highProduct_42, fFloating_highProduct_56]
  have m32 : bn_u 4294967295 = 2^32 - 1 := rfl
  have z : (32 : Int32).toInt = (32 : Nat) := rfl
  have xl : bn_u (x &&& 4294967295) = bn_u x % 2^32 := by rw [bn_u_and, m32, bn_and_mask]
  have yl : bn_u (y &&& 4294967295) = bn_u y % 2^32 := by rw [bn_u_and, m32, bn_and_mask]
  have xh : bn_u (bn_shr x 32) = bn_u x / 2^32 := bn_shr_u z (by decide)
  have yh : bn_u (bn_shr y 32) = bn_u y / 2^32 := bn_shr_u z (by decide)
  have hxl : bn_u x % 2^32 < 2^32 := Nat.mod_lt _ (by decide)
  have hyl : bn_u y % 2^32 < 2^32 := Nat.mod_lt _ (by decide)
  have hxh : bn_u x / 2^32 < 2^30 := by omega
  have hyh : bn_u y / 2^32 < 2^30 := by omega
  have hX := Nat.div_add_mod (bn_u x) (2^32)
  have hY := Nat.div_add_mod (bn_u y) (2^32)
  generalize bn_u x / 2^32 = XH at *
  generalize bn_u x % 2^32 = XL at *
  generalize bn_u y / 2^32 = YH at *
  generalize bn_u y % 2^32 = YL at *
  have b1 := bn_mul_lt hxh hyh
  have b2 := bn_mul_lt hxh hyl
  have b3 := bn_mul_lt hxl hyh
  have b4 := bn_mul_lt hxl hyl
  have e : bn_u x * bn_u y = XH * YH * 2^64 + (XH * YL + XL * YH) * 2^32 + XL * YL := by
    rw [← hX, ← hY]
    simp only [Nat.add_mul, Nat.mul_add]
    have e1 : 2^32 * XH * (2^32 * YH) = XH * YH * 2^64 := by
      rw [Nat.mul_mul_mul_comm, Nat.mul_comm]
    have e2 : 2^32 * XH * YL = XH * YL * 2^32 := by rw [Nat.mul_assoc, Nat.mul_comm]
    have e3 : XL * (2^32 * YH) = XL * YH * 2^32 := by rw [Nat.mul_left_comm, Nat.mul_comm]
    omega
  have p1 : bn_u (bn_shr x 32 * bn_shr y 32) = XH * YH := by rw [bn_mul_u] <;> rw [xh, yh]; omega
  have p2 : bn_u (bn_shr x 32 * (y &&& 4294967295)) = XH * YL := by rw [bn_mul_u] <;> rw [xh, yl]; omega
  have p3 : bn_u ((x &&& 4294967295) * bn_shr y 32) = XL * YH := by rw [bn_mul_u] <;> rw [xl, yh]; omega
  have p4 : bn_u ((x &&& 4294967295) * (y &&& 4294967295)) = XL * YL := by rw [bn_mul_u] <;> rw [xl, yl]; omega
  generalize XH * YH = A at *
  generalize XH * YL = B at *
  generalize XL * YH = C at *
  generalize XL * YL = D at *
  have q1 : bn_u (bn_shr ((x &&& 4294967295) * (y &&& 4294967295)) 32) = D / 2^32 := by rw [bn_shr_u z (by decide), p4]
  have q2 : bn_u (bn_shr x 32 * (y &&& 4294967295) + bn_shr ((x &&& 4294967295) * (y &&& 4294967295)) 32) = B + D / 2^32 := by
    rw [bn_add_u] <;> rw [p2, q1]; omega
  generalize bn_shr x 32 * (y &&& 4294967295) + bn_shr ((x &&& 4294967295) * (y &&& 4294967295)) 32 = mid at *
  have q3 : bn_u (mid &&& 4294967295) = (B + D / 2^32) % 2^32 := by rw [bn_u_and, m32, bn_and_mask, q2]
  have q4 : bn_u ((x &&& 4294967295) * bn_shr y 32 + (mid &&& 4294967295)) = C + (B + D / 2^32) % 2^32 := by
    rw [bn_add_u] <;> rw [p3, q3]; omega
  generalize (x &&& 4294967295) * bn_shr y 32 + (mid &&& 4294967295) = oth at *
  have q5 : bn_u (bn_shr mid 32) = (B + D / 2^32) / 2^32 := by rw [bn_shr_u z (by decide), q2]
  have q6 : bn_u (bn_shr oth 32) = (C + (B + D / 2^32) % 2^32) / 2^32 := by rw [bn_shr_u z (by decide), q4]
  have q7 : bn_u (bn_shr x 32 * bn_shr y 32 + bn_shr mid 32) = A + (B + D / 2^32) / 2^32 := by rw [bn_add_u] <;> rw [p1, q5]; omega
  rw [bn_add_u] <;> rw [q7, q6]
  · rw [e]; omega
  · omega
theorem bn_lift {m : Int64} (h : bn_u m < 2^62) : (fFloating_lift m).toInt = 62 - bn_len (bn_u m) := by
  have : bn_len (bn_u m) ≤ 62 := bn_len_le.mpr h
  have z : (62 : Int32).toInt = 62 := rfl
  unfold fFloating_lift
  rw [bn_i_sub] <;> rw [bn_length, bn_i_ofNat (by omega), z]; omega
theorem bn_lifted {m : Int64} (h : bn_u m < 2^62) (h0 : 0 < bn_u m) : bn_u (bn_shl m (fFloating_lift m)) = bn_u m * 2^(62 - bn_len (bn_u m)) ∧ 2^61 ≤ bn_u m * 2^(62 - bn_len (bn_u m)) ∧ bn_u m * 2^(62 - bn_len (bn_u m)) < 2^62 := by
  have hl : bn_len (bn_u m) ≤ 62 := bn_len_le.mpr h
  have hl0 := bn_len_pos h0
  have e := bn_len_mul h0 (62 - bn_len (bn_u m))
  have h2 : bn_u m * 2^(62 - bn_len (bn_u m)) < 2^62 := bn_len_le.mp (by omega)
  refine ⟨bn_shl_u (by rw [bn_lift h]; omega) (by omega) (by omega), bn_lt_len.mp (by omega), h2⟩
theorem bn_tr64 (N : Nat) : bn_tr 64 N = if N % 2^64 = 0 then N / 2^64 else (N / 2^64) ||| 1 := by
  unfold bn_tr; rw [bn_or_one]
theorem bn_P_le (k : Nat) : 24 ≤ bn_P k ∧ bn_P k ≤ 53 := by unfold bn_P; split <;> omega
theorem bn_M_lt53 (k : Nat) (x : Int64) : bn_M k x < 2^53 := Nat.lt_of_lt_of_le (bn_M_lt k x) (Nat.pow_le_pow_right (by decide) (bn_P_le k).2)
theorem bn_mn_le (k : Nat) : -1074 ≤ bn_mn k ∧ bn_mn k ≤ -149 := by unfold bn_mn; split <;> omega
def bn_out (k : Nat) (neg : Int32) (m : Nat) (e : Int) : Int64 := fFormat_signed k neg (Int64.ofNat (min (bn_rn (bn_P k) (bn_mn k) m e) (bn_INF k)))
set_option maxHeartbeats 4000000 in
theorem bn_product_fin (k : Nat) (x y : Int64) (hx : bn_ok k x) (hy : bn_ok k y) (neg : Int32) (x0 : bn_mag k x ≠ 0) (y0 : bn_mag k y ≠ 0) :
    fFloating_product_105 k x y neg (fFloating_lift (fFormat_significand k x)) = bn_out k neg (bn_M k x * bn_M k y) (bn_S k x + bn_S k y) := by
  simp only [fFloating_product_105, fFloating_product_115, fFloating_product_125, fFloating_product_135, fFloating_product_144, fFloating_product_166, fFloating_product_188]
  have mx := bn_signif k x hx
  have my := bn_signif k y hy
  have sx := bn_scale k x hx
  have sy := bn_scale k y hy
  have mx0 := bn_M_pos k x x0
  have my0 := bn_M_pos k y y0
  have mxl := bn_M_lt53 k x
  have myl := bn_M_lt53 k y
  have sx1 := bn_S_ge k x
  have sx2 := bn_S_le k x
  have sy1 := bn_S_ge k y
  have sy2 := bn_S_le k y
  have hmn := bn_mn_le k
  have hP := bn_P_le k
  generalize fFormat_significand k x = sigx at *
  generalize fFormat_significand k y = sigy at *
  generalize fFormat_scale k x = scx at *
  generalize fFormat_scale k y = scy at *
  have lx := bn_lift (m := sigx) (by omega)
  have ly := bn_lift (m := sigy) (by omega)
  obtain ⟨rx, rx1, rx2⟩ := bn_lifted (m := sigx) (by omega) (by omega)
  obtain ⟨ry, ry1, ry2⟩ := bn_lifted (m := sigy) (by omega) (by omega)
  rw [mx] at lx rx rx1 rx2
  rw [my] at ly ry ry1 ry2
  have hlx : bn_len (bn_M k x) ≤ 53 := bn_len_le.mpr mxl
  have hly : bn_len (bn_M k y) ≤ 53 := bn_len_le.mpr myl
  have hlx0 := bn_len_pos mx0
  have hly0 := bn_len_pos my0
  generalize fFloating_lift sigx = liftx at *
  generalize fFloating_lift sigy = lifty at *
  have hh := bn_highProduct (bn_shl sigx liftx) (bn_shl sigy lifty) (by omega) (by omega)
  have hlow : (bn_shl sigx liftx * bn_shl sigy lifty = 0) ↔ (bn_M k x * 2^(62 - bn_len (bn_M k x)) * (bn_M k y * 2^(62 - bn_len (bn_M k y)))) % 2^64 = 0 := by
    rw [bn_u_zero, bn_u_mul, rx, ry]
  rw [rx, ry] at hh
  have N1 : 2^61 * 2^61 ≤ bn_M k x * 2^(62 - bn_len (bn_M k x)) * (bn_M k y * 2^(62 - bn_len (bn_M k y))) := Nat.mul_le_mul rx1 ry1
  have N2 : bn_M k x * 2^(62 - bn_len (bn_M k x)) * (bn_M k y * 2^(62 - bn_len (bn_M k y))) < 2^62 * 2^62 := bn_mul_lt rx2 ry2
  have NE : bn_M k x * 2^(62 - bn_len (bn_M k x)) * (bn_M k y * 2^(62 - bn_len (bn_M k y))) = bn_M k x * bn_M k y * 2^((62 - bn_len (bn_M k x)) + (62 - bn_len (bn_M k y))) := by
    rw [Nat.mul_mul_mul_comm, ← Nat.pow_add]
  generalize hN : bn_M k x * 2^(62 - bn_len (bn_M k x)) * (bn_M k y * 2^(62 - bn_len (bn_M k y))) = N at *
  have hfold : (if bn_shl sigx liftx * bn_shl sigy lifty = 0 then fFormat_rounded k neg (fFloating_highProduct (bn_shl sigx liftx) (bn_shl sigy lifty)) (scx - liftx + scy - lifty + 64)
      else fFormat_rounded k neg (fFloating_highProduct (bn_shl sigx liftx) (bn_shl sigy lifty) ||| 1) (scx - liftx + scy - lifty + 64))
      = fFormat_rounded k neg (if bn_shl sigx liftx * bn_shl sigy lifty = 0 then fFloating_highProduct (bn_shl sigx liftx) (bn_shl sigy lifty) else fFloating_highProduct (bn_shl sigx liftx) (bn_shl sigy lifty) ||| 1) (scx - liftx + scy - lifty + 64) := by
    split <;> rfl
  rw [hfold]
  have hmu : bn_u (if bn_shl sigx liftx * bn_shl sigy lifty = 0 then fFloating_highProduct (bn_shl sigx liftx) (bn_shl sigy lifty) else fFloating_highProduct (bn_shl sigx liftx) (bn_shl sigy lifty) ||| 1) = bn_tr 64 N := by
    rw [bn_tr64]
    simp only [hlow]
    split
    · exact hh
    · rw [bn_u_or, hh]; rfl
  generalize (if bn_shl sigx liftx * bn_shl sigy lifty = 0 then fFloating_highProduct (bn_shl sigx liftx) (bn_shl sigy lifty) else fFloating_highProduct (bn_shl sigx liftx) (bn_shl sigy lifty) ||| 1) = mm at *
  have z64 : (64 : Int32).toInt = 64 := rfl
  have e1 : (scx - liftx).toInt = bn_S k x - (62 - bn_len (bn_M k x)) := by rw [bn_i_sub] <;> omega
  have e2 : (scx - liftx + scy).toInt = bn_S k x - (62 - bn_len (bn_M k x)) + bn_S k y := by rw [bn_i_add] <;> omega
  have e3 : (scx - liftx + scy - lifty).toInt = bn_S k x - (62 - bn_len (bn_M k x)) + bn_S k y - (62 - bn_len (bn_M k y)) := by rw [bn_i_sub] <;> omega
  have e4 : (scx - liftx + scy - lifty + 64).toInt = bn_S k x - (62 - bn_len (bn_M k x)) + bn_S k y - (62 - bn_len (bn_M k y)) + 64 := by rw [bn_i_add] <;> omega
  have tlen : bn_len N ≤ 124 := bn_len_le.mpr (by omega)
  have tlen2 : 122 < bn_len N := bn_lt_len.mpr (by omega)
  have tl := bn_tr_len (k := 64) (m := N) (by omega)
  have t2 : bn_tr 64 N < 2^63 := bn_len_le.mp (by omega)
  have t0 : 0 < bn_tr 64 N := by
    rcases Nat.eq_zero_or_pos (bn_tr 64 N) with q | q
    · rw [q, bn_len_zero] at tl; omega
    · exact q
  have mm0 : mm ≠ 0 := fun q => by rw [bn_u_zero] at q; omega
  rw [bn_rounded k neg mm _ mm0 (by omega) (Or.inl (by omega))]
  unfold bn_out
  congr 3
  rw [hmu, e4]
  have g1 := bn_rn_tr (bn_P k) (bn_mn k) N (bn_S k x - (62 - bn_len (bn_M k x)) + bn_S k y - (62 - bn_len (bn_M k y))) 64 (by omega) (by unfold bn_ns; omega)
  have g2 := bn_rn_mul (bn_P k) (bn_mn k) (bn_M k x * bn_M k y) (bn_S k x - (62 - bn_len (bn_M k x)) + bn_S k y - (62 - bn_len (bn_M k y))) ((62 - bn_len (bn_M k x)) + (62 - bn_len (bn_M k y))) (Nat.mul_pos mx0 my0)
  rw [← NE] at g2
  have : (bn_S k x - (62 - bn_len (bn_M k x)) + bn_S k y - (62 - bn_len (bn_M k y))) + ((((62 - bn_len (bn_M k x)) + (62 - bn_len (bn_M k y)) : Nat)) : Int) = bn_S k x + bn_S k y := by omega
  rw [this] at g2
  rw [← g2, ← g1]
  rfl
end
section
def bn_st (N D : Nat) : Nat := if N % D = 0 then N / D else N / D / 2 * 2 + 1
theorem bn_st_half (N D : Nat) : bn_st N D / 2 = N / D / 2 := by unfold bn_st; split <;> omega
theorem bn_st_mul (N D c : Nat) (hc : 0 < c) : bn_st (N * c) (D * c) = bn_st N D := by
  unfold bn_st
  have h : (N * c % (D * c) = 0) ↔ N % D = 0 := by
    rw [Nat.mul_mod_mul_right]
    constructor
    · intro q
      rcases Nat.mul_eq_zero.mp q with w | w
      · exact w
      · omega
    · intro q; rw [q, Nat.zero_mul]
  simp only [h, Nat.mul_div_mul_right _ _ hc]
theorem bn_st_tr (N D k : Nat) (hD : 0 < D) : bn_tr k (bn_st (N * 2^k) D) = bn_st N D := by
  have hp := Nat.two_pow_pos k
  have hQ : N * 2^k / D / 2^k = N / D := by
    rw [Nat.div_div_eq_div_mul, Nat.mul_div_mul_right _ _ hp]
  by_cases h : N % D = 0
  · have hN : N = D * (N / D) := by have := Nat.div_add_mod N D; omega
    have h1 : N * 2^k % D = 0 := by rw [hN, Nat.mul_assoc, Nat.mul_mod_right]
    have h2 : N * 2^k / D = N / D * 2^k := by
      conv => lhs; rw [hN, Nat.mul_assoc]
      exact Nat.mul_div_cancel_left _ hD
    unfold bn_st
    rw [if_pos h1, if_pos h, h2]
    unfold bn_tr
    rw [if_pos (Nat.mul_mod_left _ _), Nat.mul_div_cancel _ hp]
  · rcases Nat.eq_zero_or_pos k with q | q
    · subst q; rw [Nat.pow_zero, Nat.mul_one, bn_tr_zero]
    · have e2 : 2^k = 2 * 2^(k-1) := by rw [← Nat.pow_succ']; congr 1; omega
      have hT : bn_st (N * 2^k) D / 2^k = N / D := by
        rw [← hQ, e2, ← Nat.div_div_eq_div_mul, ← Nat.div_div_eq_div_mul, bn_st_half]
      have hne : bn_st (N * 2^k) D % 2^k ≠ 0 := by
        intro w
        have hd := Nat.div_add_mod (bn_st (N * 2^k) D) (2^k)
        rw [w, hT] at hd
        by_cases g : N * 2^k % D = 0
        · have hh : bn_st (N * 2^k) D = N * 2^k / D := by unfold bn_st; rw [if_pos g]
          rw [hh] at hd
          have g2 := Nat.div_add_mod (N * 2^k) D
          rw [g, ← hd] at g2
          have : D * (N / D) = N := by
            have : (D * (N / D)) * 2^k = N * 2^k := by rw [← g2, Nat.add_zero, Nat.add_zero, Nat.mul_comm (2^k), Nat.mul_assoc]
            exact Nat.eq_of_mul_eq_mul_right hp this
          have := Nat.div_add_mod N D
          omega
        · have hh : bn_st (N * 2^k) D = N * 2^k / D / 2 * 2 + 1 := by unfold bn_st; rw [if_neg g]
          have hd' : 2 * (2^(k-1) * (N / D)) = bn_st (N * 2^k) D := by rw [← Nat.mul_assoc, ← e2]; exact hd
          omega
      rw [bn_tr, if_neg hne, hT, bn_st, if_neg h]
def bn_qs (D : Nat) : Nat → Nat × Nat → Nat × Nat
  | 0, s => s
  | n + 1, s => bn_qs D n (if s.1 < D then (2 * s.1, 2 * s.2) else (2 * (s.1 - D), 2 * s.2 + 1))
theorem bn_qs_inv (D : Nat) : ∀ (n r q : Nat), r < 2 * D → (bn_qs D n (r, q)).1 < 2 * D ∧ (q * (2 * D) + r) * 2^n = (bn_qs D n (r, q)).2 * (2 * D) + (bn_qs D n (r, q)).1 := by
  intro n
  induction n with
  | zero => intro r q h; exact ⟨h, by simp [bn_qs]⟩
  | succ n ih =>
    intro r q h
    have e : ∀ a : Nat, a * 2^(n+1) = (2 * a) * 2^n := fun a => by rw [Nat.pow_succ']; rw [← Nat.mul_assoc, Nat.mul_comm a 2]
    unfold bn_qs
    show _ ∧ (q * (2 * D) + r) * 2^(n+1) = _
    rw [e]
    by_cases g : r < D
    · rw [if_pos g]
      obtain ⟨i1, i2⟩ := ih (2 * r) (2 * q) (by omega)
      refine ⟨i1, ?_⟩
      rw [← i2]; congr 1
      rw [Nat.mul_add, ← Nat.mul_assoc]
    · rw [if_neg g]
      obtain ⟨i1, i2⟩ := ih (2 * (r - D)) (2 * q + 1) (by omega)
      refine ⟨i1, ?_⟩
      rw [← i2]; congr 1
      rw [Nat.mul_add, ← Nat.mul_assoc, Nat.add_mul]; omega
theorem bn_qs_q (D n r q : Nat) (hn : q < 2^(57 - n)) (h : n ≤ 57) : (bn_qs D n (r, q)).2 < 2^57 := by
  induction n generalizing r q with
  | zero => exact hn
  | succ n ih =>
    unfold bn_qs
    have e : 2^(57 - n) = 2 * 2^(57 - (n+1)) := by rw [← Nat.pow_succ']; congr 1; omega
    split
    · exact ih _ _ (by omega) (by omega)
    · exact ih _ _ (by omega) (by omega)
theorem bn_i_count (i : Int32) (k : Nat) (h : i.toInt = k) (hk : k < 100) : (i + 1).toInt = (k + 1 : Nat) := by
  have z : (1 : Int32).toInt = 1 := rfl
  rw [bn_i_add] <;> omega
theorem bn_qloop (k : Nat) (x y : Int64) (neg l1 l2 : Int32) (D : Int64) (hD : bn_u D < 2^62) : ∀ (n : Nat) (r q : Int64) (i : Int32), n ≤ 57 → i.toInt = (57 - n : Nat) → bn_u r < 2 * bn_u D → bn_u q < 2^(57 - n) →
    ∃ r' q' : Int64, bn_u r' = (bn_qs (bn_u D) n (bn_u r, bn_u q)).1 ∧ bn_u q' = (bn_qs (bn_u D) n (bn_u r, bn_u q)).2 ∧
      fFloating_quotient_166 (n + 1) k x y neg l1 l2 r D q i = fFormat_rounded k neg (if r' = 0 then q' else q' ||| 1) (fFormat_scale k x - l1 - (fFormat_scale k y - l2) - 56) := by
  intro n
  induction n with
  | zero =>
    intro r q i _ hi hr hq
    refine ⟨r, q, rfl, rfl, ?_⟩
    have h57 : (57 : Int32) ≤ i := by rw [Int32.le_iff_toInt_le, hi]; decide
    rw [fFloating_quotient_166, if_pos h57]
    simp only [fFloating_quotient_253]
    split <;> rfl
  | succ n ih =>
    intro r q i hn hi hr hq
    have h57 : ¬ (57 : Int32) ≤ i := by rw [Int32.le_iff_toInt_le, hi]; show ¬ (57 : Int) ≤ _; omega
    have hi1 := bn_i_count i _ hi (by omega)
    have z1 : (1 : Int32).toInt = (1 : Nat) := rfl
    have e2 : 2^(57 - n) = 2 * 2^(57 - (n+1)) := by rw [← Nat.pow_succ']; congr 1; omega
    have hq57 : 2^(57 - n) ≤ 2^57 := Nat.pow_le_pow_right (by decide) (by omega)
    have q1 : bn_u (bn_shl q 1) = 2 * bn_u q := by rw [bn_shl_u z1 (by decide)] <;> omega
    rw [fFloating_quotient_166, if_neg h57]
    simp only [fFloating_quotient_179, fFloating_quotient_194, fFloating_quotient_200, fFloating_quotient_206]
    unfold bn_qs
    by_cases g : bn_u r < bn_u D
    · have g' : r < D := (bn_lt (by omega) (by omega)).mpr g
      rw [if_pos g', if_pos g]
      have r1 : bn_u (bn_shl r 1) = 2 * bn_u r := by rw [bn_shl_u z1 (by decide)] <;> omega
      have := ih (bn_shl r 1) (bn_shl q 1) (i + 1) (by omega) (by rw [hi1]; omega) (by omega) (by omega)
      rw [r1, q1] at this
      exact this
    · have g' : ¬ r < D := fun w => g ((bn_lt (by omega) (by omega)).mp w)
      rw [if_neg g', if_neg g]
      have r0 : bn_u (r - D) = bn_u r - bn_u D := bn_sub_u (by omega)
      have r1 : bn_u (bn_shl (r - D) 1) = 2 * (bn_u r - bn_u D) := by rw [bn_shl_u z1 (by decide)] <;> omega
      have q2 : bn_u (bn_shl q 1 ||| 1) = 2 * bn_u q + 1 := by
        rw [bn_u_or, q1, show bn_u 1 = 1 from rfl, bn_or_one]; omega
      have := ih (bn_shl (r - D) 1) (bn_shl q 1 ||| 1) (i + 1) (by omega) (by rw [hi1]; omega) (by omega) (by omega)
      rw [r1, q2] at this
      exact this

set_option maxHeartbeats 4000000 in
theorem bn_quotient_fin (k : Nat) (x y : Int64) (hx : bn_ok k x) (hy : bn_ok k y) (neg : Int32) (x0 : bn_mag k x ≠ 0) (y0 : bn_mag k y ≠ 0) :
    fFloating_quotient_130 k x y neg (fFloating_lift (fFormat_significand k x)) = bn_out k neg (bn_st (bn_M k x * 2^120) (bn_M k y)) (bn_S k x - bn_S k y - 120) := by
  simp only [fFloating_quotient_130, fFloating_quotient_140, fFloating_quotient_150, fFloating_quotient_160]
  have mx := bn_signif k x hx
  have my := bn_signif k y hy
  have sx := bn_scale k x hx
  have sy := bn_scale k y hy
  have mx0 := bn_M_pos k x x0
  have my0 := bn_M_pos k y y0
  have mxl := bn_M_lt53 k x
  have myl := bn_M_lt53 k y
  have sx1 := bn_S_ge k x
  have sx2 := bn_S_le k x
  have sy1 := bn_S_ge k y
  have sy2 := bn_S_le k y
  have hmn := bn_mn_le k
  have hP := bn_P_le k
  generalize fFormat_significand k x = sigx at *
  generalize fFormat_significand k y = sigy at *
  have lx := bn_lift (m := sigx) (by omega)
  have ly := bn_lift (m := sigy) (by omega)
  obtain ⟨rx, rx1, rx2⟩ := bn_lifted (m := sigx) (by omega) (by omega)
  obtain ⟨ry, ry1, ry2⟩ := bn_lifted (m := sigy) (by omega) (by omega)
  rw [mx] at lx rx rx1 rx2
  rw [my] at ly ry ry1 ry2
  have hlx : bn_len (bn_M k x) ≤ 53 := bn_len_le.mpr mxl
  have hly : bn_len (bn_M k y) ≤ 53 := bn_len_le.mpr myl
  have hlx0 := bn_len_pos mx0
  have hly0 := bn_len_pos my0
  generalize fFloating_lift sigx = liftx at *
  generalize fFloating_lift sigy = lifty at *
  have u0 : bn_u 0 = 0 := rfl
  obtain ⟨r', q', hr', hq', hloop⟩ := bn_qloop k x y neg liftx lifty (bn_shl sigy lifty) (by omega) 57 (bn_shl sigx liftx) 0 0 (by omega) rfl (by omega) (by decide)
  have hinv := bn_qs_inv (bn_u (bn_shl sigy lifty)) 57 (bn_u (bn_shl sigx liftx)) 0 (by omega)
  have hqlt := bn_qs_q (bn_u (bn_shl sigy lifty)) 57 (bn_u (bn_shl sigx liftx)) 0 (by decide) (by omega)
  rw [u0] at hr' hq'
  rw [hloop]
  clear hloop
  rw [← hr', ← hq', rx, ry, Nat.zero_mul, Nat.zero_add] at hinv
  rw [← hq'] at hqlt
  obtain ⟨hi1, hi2⟩ := hinv
  have hDpos : 0 < bn_M k y * 2^(62 - bn_len (bn_M k y)) := by omega
  have hdiv : bn_M k x * 2^(62 - bn_len (bn_M k x)) * 2^57 / (2 * (bn_M k y * 2^(62 - bn_len (bn_M k y)))) = bn_u q' := by
    rw [hi2, Nat.mul_comm (bn_u q'), Nat.mul_add_div (by omega), Nat.div_eq_of_lt hi1, Nat.add_zero]
  have hmod : bn_M k x * 2^(62 - bn_len (bn_M k x)) * 2^57 % (2 * (bn_M k y * 2^(62 - bn_len (bn_M k y)))) = bn_u r' := by
    rw [hi2, Nat.mul_comm (bn_u q'), Nat.mul_add_mod, Nat.mod_eq_of_lt hi1]
  have hmu : bn_u (if r' = 0 then q' else q' ||| 1) = bn_st (bn_M k x * 2^(62 - bn_len (bn_M k x)) * 2^57) (2 * (bn_M k y * 2^(62 - bn_len (bn_M k y)))) := by
    unfold bn_st
    rw [hdiv, hmod]
    have : (r' = 0) ↔ bn_u r' = 0 := bn_u_zero
    simp only [this]
    split
    · rfl
    · rw [bn_u_or, show bn_u 1 = 1 from rfl, bn_or_one]
  have hst : bn_st (bn_M k x * 2^(62 - bn_len (bn_M k x)) * 2^57) (2 * (bn_M k y * 2^(62 - bn_len (bn_M k y)))) = bn_st (bn_M k x * 2^(62 - bn_len (bn_M k x) + 56 - (62 - bn_len (bn_M k y)))) (bn_M k y) := by
    rw [← bn_st_mul _ (bn_M k y) (2^(62 - bn_len (bn_M k y) + 1)) (Nat.two_pow_pos _)]
    congr 1
    · rw [Nat.mul_assoc, Nat.mul_assoc, ← Nat.pow_add, ← Nat.pow_add]; congr 2; omega
    · rw [Nat.pow_succ]; rw [Nat.mul_comm 2, Nat.mul_assoc]
  have ha : 62 - bn_len (bn_M k x) + 56 - (62 - bn_len (bn_M k y)) ≤ 108 := by omega
  generalize hA : 62 - bn_len (bn_M k x) + 56 - (62 - bn_len (bn_M k y)) = a at *
  have htr := bn_st_tr (bn_M k x * 2^a) (bn_M k y) (120 - a) my0
  rw [Nat.mul_assoc, ← Nat.pow_add, show a + (120 - a) = 120 by omega] at htr
  rw [hst] at hmu
  generalize (if r' = 0 then q' else q' ||| 1) = mm at *
  have hq55 : 2^55 ≤ bn_u q' := by
    rw [← hdiv, Nat.le_div_iff_mul_le (by omega)]
    omega
  have hmq : bn_u mm / 2 = bn_u q' / 2 := by
    rw [hmu, ← hst, bn_st_half, hdiv]
  have hmm1 : 2^55 ≤ bn_u mm := by omega
  have hmm2 : bn_u mm < 2^57 := by omega
  have mm0 : mm ≠ 0 := fun q => by rw [bn_u_zero] at q; omega
  have z56 : (56 : Int32).toInt = 56 := rfl
  have e1 : (fFormat_scale k x - liftx).toInt = bn_S k x - (62 - bn_len (bn_M k x)) := by rw [bn_i_sub] <;> omega
  have e2 : (fFormat_scale k y - lifty).toInt = bn_S k y - (62 - bn_len (bn_M k y)) := by rw [bn_i_sub] <;> omega
  have e3 : (fFormat_scale k x - liftx - (fFormat_scale k y - lifty)).toInt = bn_S k x - (62 - bn_len (bn_M k x)) - (bn_S k y - (62 - bn_len (bn_M k y))) := by rw [bn_i_sub] <;> omega
  have e4 : (fFormat_scale k x - liftx - (fFormat_scale k y - lifty) - 56).toInt = bn_S k x - bn_S k y - 120 + (120 - a : Nat) := by rw [bn_i_sub] <;> omega
  rw [bn_rounded k neg mm _ mm0 (by omega) (Or.inl (by omega))]
  unfold bn_out
  congr 3
  rw [hmu, e4, ← htr]
  have hQ : 2^(120 - a) ≤ bn_st (bn_M k x * 2^120) (bn_M k y) := by
    rcases Nat.lt_or_ge (bn_st (bn_M k x * 2^120) (bn_M k y)) (2^(120 - a)) with w | w
    · exfalso
      have t : bn_tr (120 - a) (bn_st (bn_M k x * 2^120) (bn_M k y)) ≤ 1 := by
        unfold bn_tr; rw [Nat.div_eq_of_lt w]; split <;> omega
      rw [htr] at t; omega
    · exact w
  have hl := bn_tr_len hQ
  rw [htr, ← hmu] at hl
  have hl2 : 55 < bn_len (bn_u mm) := bn_lt_len.mpr hmm1
  exact bn_rn_tr _ _ _ _ _ hQ (by unfold bn_ns; omega)
end
section
theorem bn_isqrt_ex (n : Nat) : ∃ s, s * s ≤ n ∧ n < (s + 1) * (s + 1) := by
  induction n with
  | zero => exact ⟨0, by decide, by decide⟩
  | succ n ih =>
    obtain ⟨s, h1, h2⟩ := ih
    have e : (s + 1 + 1) * (s + 1 + 1) = (s + 1) * (s + 1) + 2 * (s + 1) + 1 := by
      generalize s + 1 = a
      rw [Nat.add_mul, Nat.mul_add]; omega
    by_cases q : (s + 1) * (s + 1) ≤ n + 1
    · exact ⟨s + 1, q, by omega⟩
    · exact ⟨s, by omega, by omega⟩
noncomputable def bn_isqrt (n : Nat) : Nat := Classical.choose (bn_isqrt_ex n)
theorem bn_isqrt_spec (n : Nat) : bn_isqrt n * bn_isqrt n ≤ n ∧ n < (bn_isqrt n + 1) * (bn_isqrt n + 1) := Classical.choose_spec (bn_isqrt_ex n)
theorem bn_isqrt_unique {s n : Nat} (h1 : s * s ≤ n) (h2 : n < (s + 1) * (s + 1)) : bn_isqrt n = s := by
  obtain ⟨g1, g2⟩ := bn_isqrt_spec n
  rcases Nat.lt_trichotomy (bn_isqrt n) s with q | q | q
  · have : (bn_isqrt n + 1) * (bn_isqrt n + 1) ≤ s * s := Nat.mul_le_mul q q
    omega
  · exact q
  · have : (s + 1) * (s + 1) ≤ bn_isqrt n * bn_isqrt n := Nat.mul_le_mul q q
    omega
noncomputable def bn_sq (n : Nat) : Nat := if bn_isqrt n * bn_isqrt n = n then bn_isqrt n else bn_isqrt n / 2 * 2 + 1
theorem bn_sq_half (n : Nat) : bn_sq n / 2 = bn_isqrt n / 2 := by unfold bn_sq; split <;> omega
theorem bn_pow4 (k : Nat) : 4^k = 2^k * 2^k := by rw [← Nat.mul_pow]
theorem bn_isqrt_div (n k : Nat) : bn_isqrt (n * 4^k) / 2^k = bn_isqrt n := by
  have hp := Nat.two_pow_pos k
  obtain ⟨g1, g2⟩ := bn_isqrt_spec (n * 4^k)
  symm
  apply bn_isqrt_unique
  · have h := Nat.div_mul_le_self (bn_isqrt (n * 4^k)) (2^k)
    have h2 := Nat.mul_le_mul h h
    rw [Nat.mul_mul_mul_comm, ← bn_pow4] at h2
    exact Nat.le_of_mul_le_mul_right (Nat.le_trans h2 g1) (by rw [bn_pow4]; exact Nat.mul_pos hp hp)
  · have h := Nat.lt_mul_div_succ (bn_isqrt (n * 4^k)) hp
    have h1 : bn_isqrt (n * 4^k) + 1 ≤ (bn_isqrt (n * 4^k) / 2^k + 1) * 2^k := by rw [Nat.mul_comm (_ + 1) (2^k)]; exact h
    have h2 := Nat.mul_le_mul h1 h1
    rw [Nat.mul_mul_mul_comm, ← bn_pow4] at h2
    exact Nat.lt_of_mul_lt_mul_right (Nat.lt_of_lt_of_le g2 h2)
theorem bn_sq_tr (n k : Nat) : bn_tr k (bn_sq (n * 4^k)) = bn_sq n := by
  have hp := Nat.two_pow_pos k
  have hd := bn_isqrt_div n k
  have hp4 : 0 < 4^k := by rw [bn_pow4]; exact Nat.mul_pos hp hp
  by_cases h : bn_isqrt n * bn_isqrt n = n
  · have e : bn_isqrt (n * 4^k) = bn_isqrt n * 2^k := by
      apply bn_isqrt_unique
      · rw [Nat.mul_mul_mul_comm, h, ← bn_pow4]; exact Nat.le_refl _
      · have : (bn_isqrt n * 2^k) * (bn_isqrt n * 2^k) = n * 4^k := by rw [Nat.mul_mul_mul_comm, h, ← bn_pow4]
        rw [← this]
        exact Nat.mul_lt_mul_of_lt_of_lt (Nat.lt_succ_self _) (Nat.lt_succ_self _)
    have h2 : bn_isqrt (n * 4^k) * bn_isqrt (n * 4^k) = n * 4^k := by rw [e, Nat.mul_mul_mul_comm, h, ← bn_pow4]
    unfold bn_sq
    rw [if_pos h2, if_pos h, e]
    unfold bn_tr
    rw [if_pos (Nat.mul_mod_left _ _), Nat.mul_div_cancel _ hp]
  · rcases Nat.eq_zero_or_pos k with q | q
    · subst q; rw [Nat.pow_zero, Nat.mul_one, bn_tr_zero]
    · have e2 : 2^k = 2 * 2^(k-1) := by rw [← Nat.pow_succ']; congr 1; omega
      have hT : bn_sq (n * 4^k) / 2^k = bn_isqrt n := by
        rw [← hd, e2, ← Nat.div_div_eq_div_mul, ← Nat.div_div_eq_div_mul, bn_sq_half]
      have hne : bn_sq (n * 4^k) % 2^k ≠ 0 := by
        intro w
        have hd2 := Nat.div_add_mod (bn_sq (n * 4^k)) (2^k)
        rw [w, hT] at hd2
        by_cases g : bn_isqrt (n * 4^k) * bn_isqrt (n * 4^k) = n * 4^k
        · have hh : bn_sq (n * 4^k) = bn_isqrt (n * 4^k) := by unfold bn_sq; rw [if_pos g]
          rw [hh, Nat.add_zero] at hd2
          rw [← hd2, Nat.mul_mul_mul_comm, ← bn_pow4, Nat.mul_comm] at g
          exact h (Nat.eq_of_mul_eq_mul_right hp4 g)
        · have hh : bn_sq (n * 4^k) = bn_isqrt (n * 4^k) / 2 * 2 + 1 := by unfold bn_sq; rw [if_neg g]
          have hd' : 2 * (2^(k-1) * bn_isqrt n) = bn_sq (n * 4^k) := by rw [← Nat.mul_assoc, ← e2]; exact hd2
          omega
      rw [bn_tr, if_neg hne, hT, bn_sq, if_neg h]
def bn_rs : Nat → Nat × Nat × Nat → Nat × Nat × Nat
  | 0, s => s
  | n + 1, (p, s, r) => bn_rs n (if 4 * r + p / 2^60 < 4 * s + 1 then (4 * p % 2^62, 2 * s, 4 * r + p / 2^60) else (4 * p % 2^62, 2 * s + 1, 4 * r + p / 2^60 - (4 * s + 1)))
theorem bn_rs_inv : ∀ (n p s r : Nat), p < 2^62 → r ≤ 2 * s → (bn_rs n (p, s, r)).1 < 2^62 ∧ (bn_rs n (p, s, r)).2.2 ≤ 2 * (bn_rs n (p, s, r)).2.1 ∧
    (p + 2^62 * (s * s + r)) * 4^n = (bn_rs n (p, s, r)).1 + 2^62 * ((bn_rs n (p, s, r)).2.1 * (bn_rs n (p, s, r)).2.1 + (bn_rs n (p, s, r)).2.2) := by
  intro n
  induction n with
  | zero => intro p s r h1 h2; exact ⟨h1, h2, by simp [bn_rs]⟩
  | succ n ih =>
    intro p s r h1 h2
    have e : ∀ a : Nat, a * 4^(n+1) = (4 * a) * 4^n := fun a => by rw [Nat.pow_succ']; rw [← Nat.mul_assoc, Nat.mul_comm a 4]
    have hp : 4 * p = 4 * p % 2^62 + 2^62 * (p / 2^60) := by omega
    have hpl : 4 * p % 2^62 < 2^62 := Nat.mod_lt _ (by decide)
    have hp3 : p / 2^60 ≤ 3 := by omega
    unfold bn_rs
    show _ ∧ _ ∧ (p + 2^62 * (s * s + r)) * 4^(n+1) = _
    rw [e]
    have s4 : (2 * s) * (2 * s) = 4 * (s * s) := by rw [Nat.mul_mul_mul_comm]
    have s5 : (2 * s + 1) * (2 * s + 1) = 4 * (s * s) + 4 * s + 1 := by rw [Nat.add_mul, Nat.mul_add, s4]; omega
    by_cases g : 4 * r + p / 2^60 < 4 * s + 1
    · rw [if_pos g]
      obtain ⟨i1, i2, i3⟩ := ih (4 * p % 2^62) (2 * s) (4 * r + p / 2^60) hpl (by omega)
      refine ⟨i1, i2, ?_⟩
      rw [← i3]; congr 1
      rw [s4]; omega
    · rw [if_neg g]
      obtain ⟨i1, i2, i3⟩ := ih (4 * p % 2^62) (2 * s + 1) (4 * r + p / 2^60 - (4 * s + 1)) hpl (by omega)
      refine ⟨i1, i2, ?_⟩
      rw [← i3]; congr 1
      rw [s5]; omega

theorem bn_rs_s (n p s r : Nat) (h : n ≤ 57) (hs : s < 2^(57 - n)) : (bn_rs n (p, s, r)).2.1 < 2^57 := by
  induction n generalizing p s r with
  | zero => exact hs
  | succ n ih =>
    unfold bn_rs
    have e : 2^(57 - n) = 2 * 2^(57 - (n+1)) := by rw [← Nat.pow_succ']; congr 1; omega
    split
    · exact ih _ _ _ (by omega) (by omega)
    · exact ih _ _ _ (by omega) (by omega)
theorem bn_or_low (a b : Nat) (h : b < 4) : (4 * a) ||| b = 4 * a + b := by
  have := Nat.two_pow_add_eq_or_of_lt (i := 2) (b := b) h a
  rw [show (2 : Nat)^2 = 4 from rfl] at this
  exact this.symm
theorem bn_rloop (k : Nat) (x : Int64) (l1 : Int32) : ∀ (n : Nat) (p s r : Int64) (i : Int32), n ≤ 57 → i.toInt = (57 - n : Nat) → bn_u r ≤ 2 * bn_u s → bn_u s < 2^(57 - n) →
    ∃ s' r' : Int64, bn_u s' = (bn_rs n (bn_u p % 2^62, bn_u s, bn_u r)).2.1 ∧ bn_u r' = (bn_rs n (bn_u p % 2^62, bn_u s, bn_u r)).2.2 ∧
      fFloating_root_72 (n + 1) k x l1 p s r i = fFormat_rounded k 0 (if r' = 0 then s' else s' ||| 1) ((fFormat_scale k x - l1) / 2 + 31 - 57) := by
  intro n
  induction n with
  | zero =>
    intro p s r i _ hi hr hq
    refine ⟨s, r, rfl, rfl, ?_⟩
    have h57 : (57 : Int32) ≤ i := by rw [Int32.le_iff_toInt_le, hi]; decide
    rw [fFloating_root_72, if_pos h57]
    simp only [fFloating_root_177]
    split <;> rfl
  | succ n ih =>
    intro p s r i hn hi hr hs
    have h57 : ¬ (57 : Int32) ≤ i := by rw [Int32.le_iff_toInt_le, hi]; show ¬ (57 : Int) ≤ _; omega
    have hi1 := bn_i_count i _ hi (by omega)
    have z1 : (1 : Int32).toInt = (1 : Nat) := rfl
    have z2 : (2 : Int32).toInt = (2 : Nat) := rfl
    have z60 : (60 : Int32).toInt = (60 : Nat) := rfl
    have e2 : 2^(57 - n) = 2 * 2^(57 - (n+1)) := by rw [← Nat.pow_succ']; congr 1; omega
    have hq57 : 2^(57 - n) ≤ 2^57 := Nat.pow_le_pow_right (by decide) (by omega)
    have hpu := bn_u_lt p
    have s1 : bn_u (bn_shl s 1) = 2 * bn_u s := by rw [bn_shl_u z1 (by decide)] <;> omega
    have s2 : bn_u (bn_shl s 2) = 4 * bn_u s := by rw [bn_shl_u z2 (by decide)] <;> omega
    have r2 : bn_u (bn_shl r 2) = 4 * bn_u r := by rw [bn_shl_u z2 (by decide)] <;> omega
    have p2 : bn_u (bn_shl p 2) % 2^62 = 4 * (bn_u p % 2^62) % 2^62 := by
      rw [bn_u_shl]; show _ * 2^2 % 2^64 % 2^62 = _; omega
    have t1 : bn_u (bn_shl s 2 ||| 1) = 4 * bn_u s + 1 := by
      rw [bn_u_or, s2, show bn_u 1 = 1 from rfl, bn_or_low _ _ (by decide)]
    have pt : bn_u (bn_shr p 60 &&& 3) = bn_u p % 2^62 / 2^60 := by
      rw [bn_u_and, bn_shr_u z60 (by decide), show bn_u 3 = 2^2 - 1 from rfl, bn_and_mask]; omega
    have rr : bn_u (bn_shl r 2 ||| (bn_shr p 60 &&& 3)) = 4 * bn_u r + bn_u p % 2^62 / 2^60 := by
      rw [bn_u_or, r2, pt, bn_or_low _ _ (by omega)]
    rw [fFloating_root_72, if_neg h57]
    simp only [fFloating_root_95, fFloating_root_101, fFloating_root_109, fFloating_root_115, fFloating_root_130, fFloating_root_136]
    generalize bn_shl r 2 ||| (bn_shr p 60 &&& 3) = R at *
    generalize bn_shl s 2 ||| 1 = T at *
    unfold bn_rs
    by_cases g : 4 * bn_u r + bn_u p % 2^62 / 2^60 < 4 * bn_u s + 1
    · have g' : R < T := (bn_lt (by omega) (by omega)).mpr (by omega)
      rw [if_pos g', if_pos g]
      have := ih (bn_shl p 2) (bn_shl s 1) R (i + 1) (by omega) (by rw [hi1]; omega) (by omega) (by omega)
      rw [p2, s1, rr] at this
      exact this
    · have g' : ¬ R < T := fun w => g (by have := (bn_lt (by omega) (by omega)).mp w; omega)
      rw [if_neg g', if_neg g]
      have r0 : bn_u (R - T) = bn_u R - bn_u T := bn_sub_u (by omega)
      have q2 : bn_u (bn_shl s 1 ||| 1) = 2 * bn_u s + 1 := by
        rw [bn_u_or, s1, show bn_u 1 = 1 from rfl, bn_or_one]; omega
      have := ih (bn_shl p 2) (bn_shl s 1 ||| 1) (R - T) (i + 1) (by omega) (by rw [hi1]; omega) (by omega) (by omega)
      rw [p2, q2, r0, rr, t1] at this
      exact this
theorem bn_i_and1 (a : Int32) : (a &&& 1).toInt = a.toInt % 2 := by
  have h1 : bn_v (a &&& 1) = bn_v a % 2 := by
    rw [bn_v_and, show bn_v 1 = 2^1 - 1 from rfl, bn_and_mask]
  have h2 := bn_v_s a
  have h3 := bn_v_s (a &&& 1)
  rw [h1] at h3
  have h4 : bn_v a < 2^32 := a.toBitVec.isLt
  rw [h3, h2]
  split <;> split <;> omega
theorem bn_i_half (a : Int32) (h : a.toInt % 2 = 0) (hb : -10000 ≤ a.toInt ∧ a.toInt ≤ 10000) : (a / 2).toInt = a.toInt / 2 := by
  have z2 : (2 : Int32).toInt = 2 := rfl
  have hne : a ≠ Int32.minValue := by
    intro q; rw [q] at hb; have : Int32.minValue.toInt = -2147483648 := rfl; omega
  rw [Int32.toInt_div_of_ne_left _ _ hne, z2, Int.tdiv_eq_ediv_of_dvd (by omega)]
theorem bn_cancel {B p' T C : Nat} (h : C * B = p' + C * T) (hp : p' < C) : B = T := by
  rcases Nat.lt_trichotomy B T with q | q | q
  · have := Nat.mul_le_mul_left C q
    rw [Nat.mul_succ] at this; omega
  · exact q
  · have := Nat.mul_le_mul_left C q
    rw [Nat.mul_succ] at this; omega
theorem bn_rs_end {PP p' T : Nat} (h : PP * 4^57 = p' + 2^62 * T) (hp : p' < 2^62) : PP * 2^52 = T := by
  refine bn_cancel (C := 2^62) ?_ hp
  rw [← h, Nat.mul_comm, Nat.mul_assoc]
def bn_rc (k : Nat) (x : Int64) : Nat := 200 + (bn_S k x % 2).toNat
set_option maxHeartbeats 4000000 in
theorem bn_root_fin (k : Nat) (x : Int64) (hx : bn_ok k x) (x0 : bn_mag k x ≠ 0) :
    fFloating_root_42 k x (fFloating_lift (fFormat_significand k x)) = bn_out k 0 (bn_sq (bn_M k x * 2^bn_rc k x)) ((bn_S k x - bn_rc k x) / 2) := by
  simp only [fFloating_root_42, fFloating_root_54, fFloating_root_63]
  have mx := bn_signif k x hx
  have sx := bn_scale k x hx
  have mx0 := bn_M_pos k x x0
  have mxl := bn_M_lt53 k x
  have sx1 := bn_S_ge k x
  have sx2 := bn_S_le k x
  have hmn := bn_mn_le k
  have hP := bn_P_le k
  generalize fFormat_significand k x = sigx at *
  have lx := bn_lift (m := sigx) (by omega)
  rw [mx] at lx
  have hlx : bn_len (bn_M k x) ≤ 53 := bn_len_le.mpr mxl
  have hlx0 := bn_len_pos mx0
  generalize fFloating_lift sigx = lift0 at *
  have a1 : (fFormat_scale k x - lift0).toInt = bn_S k x - (62 - bn_len (bn_M k x)) := by rw [bn_i_sub] <;> omega
  have a2 := bn_i_and1 (fFormat_scale k x - lift0)
  rw [a1] at a2
  have a3 : (lift0 - (fFormat_scale k x - lift0 &&& 1)).toInt = 62 - bn_len (bn_M k x) - (bn_S k x - (62 - bn_len (bn_M k x))) % 2 := by rw [bn_i_sub] <;> omega
  generalize lift0 - (fFormat_scale k x - lift0 &&& 1) = lift at *
  have hlift : lift.toInt = (62 - bn_len (bn_M k x) - ((bn_S k x - (62 - bn_len (bn_M k x))) % 2).toNat : Nat) := by omega
  generalize hLL : 62 - bn_len (bn_M k x) - ((bn_S k x - (62 - bn_len (bn_M k x))) % 2).toNat = LL at *
  have hLL1 : 61 ≤ LL + bn_len (bn_M k x) ∧ LL + bn_len (bn_M k x) ≤ 62 ∧ LL ≤ 61 := by omega
  have hpar : (bn_S k x - LL) % 2 = 0 := by omega
  have hlenp := bn_len_mul mx0 LL
  have hpl : bn_M k x * 2^LL < 2^62 := bn_len_le.mp (by omega)
  have hpg : 2^60 ≤ bn_M k x * 2^LL := bn_lt_len.mp (by omega)
  have hpu : bn_u (bn_shl sigx lift) = bn_M k x * 2^LL := by
    rw [bn_shl_u hlift (by omega)] <;> rw [mx]; omega
  have u0 : bn_u 0 = 0 := rfl
  obtain ⟨s', r', hs', hr', hloop⟩ := bn_rloop k x lift 57 (bn_shl sigx lift) 0 0 0 (by omega) rfl (by decide) (by decide)
  rw [hloop]
  clear hloop
  rw [u0, hpu, Nat.mod_eq_of_lt hpl] at hs' hr'
  obtain ⟨i1, i2, i3⟩ := bn_rs_inv 57 (bn_M k x * 2^LL) 0 0 hpl (by decide)
  have i4 := bn_rs_s 57 (bn_M k x * 2^LL) 0 0 (by omega) (by decide)
  rw [← hs', ← hr'] at i2
  rw [← hs', ← hr', Nat.mul_zero, Nat.add_zero] at i3
  rw [← hs'] at i4
  have hN : bn_M k x * 2^LL * 2^52 = bn_u s' * bn_u s' + bn_u r' := bn_rs_end i3 i1
  clear i3 i1
  have hNL : bn_M k x * 2^LL * 2^52 = bn_M k x * 2^(LL + 52) := by rw [Nat.mul_assoc, ← Nat.pow_add]
  have hsq : bn_isqrt (bn_M k x * 2^(LL + 52)) = bn_u s' := by
    rw [← hNL, hN]
    apply bn_isqrt_unique
    · omega
    · rw [Nat.add_mul, Nat.mul_add]; omega
  have hmu : bn_u (if r' = 0 then s' else s' ||| 1) = bn_sq (bn_M k x * 2^(LL + 52)) := by
    unfold bn_sq
    rw [hsq]
    have : (r' = 0) ↔ bn_u s' * bn_u s' = bn_M k x * 2^(LL + 52) := by
      rw [bn_u_zero, ← hNL, hN]; omega
    simp only [this]
    split
    · rfl
    · rw [bn_u_or, show bn_u 1 = 1 from rfl, bn_or_one]
  generalize (if r' = 0 then s' else s' ||| 1) = mm at *
  have hs56 : 2^56 ≤ bn_u s' := by
    rcases Nat.lt_or_ge (bn_u s') (2^56) with w | w
    · exfalso
      have : (bn_u s' + 1) * (bn_u s' + 1) ≤ 2^56 * 2^56 := Nat.mul_le_mul w w
      obtain ⟨-, g2⟩ := bn_isqrt_spec (bn_M k x * 2^(LL + 52))
      rw [hsq, ← hNL] at g2
      omega
    · exact w
  have hmh : bn_u mm / 2 = bn_u s' / 2 := by rw [hmu, bn_sq_half, hsq]
  have mm0 : mm ≠ 0 := fun q => by rw [bn_u_zero] at q; omega
  have hc1 : 200 ≤ bn_rc k x ∧ bn_rc k x ≤ 201 ∧ (bn_S k x - bn_rc k x) % 2 = 0 := by unfold bn_rc; omega
  generalize bn_rc k x = c at *
  have hj : ∃ j : Nat, c = LL + 52 + 2 * j := ⟨(c - (LL + 52)) / 2, by omega⟩
  obtain ⟨j, hj⟩ := hj
  have hcj : bn_M k x * 2^c = bn_M k x * 2^(LL + 52) * 4^j := by
    rw [hj, Nat.pow_add, Nat.pow_mul, ← Nat.mul_assoc]
  have htr := bn_sq_tr (bn_M k x * 2^(LL + 52)) j
  rw [← hcj] at htr
  have z31 : (31 : Int32).toInt = 31 := rfl
  have z57 : (57 : Int32).toInt = 57 := rfl
  have f1 : (fFormat_scale k x - lift).toInt = bn_S k x - LL := by rw [bn_i_sub] <;> omega
  have f2 := bn_i_half (fFormat_scale k x - lift) (by omega) (by omega)
  have f3 : ((fFormat_scale k x - lift) / 2 + 31).toInt = (bn_S k x - LL) / 2 + 31 := by rw [bn_i_add] <;> omega
  have f4 : ((fFormat_scale k x - lift) / 2 + 31 - 57).toInt = (bn_S k x - c) / 2 + j := by rw [bn_i_sub] <;> omega
  have hQ : 2^j ≤ bn_sq (bn_M k x * 2^c) := by
    rcases Nat.lt_or_ge (bn_sq (bn_M k x * 2^c)) (2^j) with w | w
    · exfalso
      have t : bn_tr j (bn_sq (bn_M k x * 2^c)) ≤ 1 := by
        unfold bn_tr; rw [Nat.div_eq_of_lt w]; split <;> omega
      rw [htr] at t; omega
    · exact w
  have hl := bn_tr_len hQ
  rw [htr, ← hmu] at hl
  have hl2 : 56 ≤ bn_len (bn_u mm) := by
    have : 55 < bn_len (bn_u mm) := bn_lt_len.mpr (by omega)
    omega
  have key := bn_rn_tr (bn_P k) (bn_mn k) _ ((bn_S k x - c) / 2) j hQ (by unfold bn_ns; omega)
  rw [htr, ← hmu] at key
  rw [bn_rounded k 0 mm _ mm0 (by omega) (Or.inl (by omega)), f4, key, bn_out]
end
section
def bn_V (k : Nat) (x : Int64) : Nat := bn_M k x * 2^(bn_S k x - bn_mn k).toNat
theorem bn_S_ex (k : Nat) (x : Int64) : (bn_S k x - bn_mn k).toNat = bn_ex k x - 1 := by unfold bn_S; omega
theorem bn_mag_ex (k : Nat) (x : Int64) : bn_mag k x = bn_ex k x * 2^(bn_P k - 1) + bn_mag k x % 2^(bn_P k - 1) := by
  unfold bn_ex; have := Nat.div_add_mod (bn_mag k x) (2^(bn_P k - 1)); rw [Nat.mul_comm]; omega
theorem bn_V_lt_of_ex {k : Nat} {x y : Int64} (h : bn_ex k x < bn_ex k y) : bn_V k x < bn_V k y := by
  have hP := bn_P_le k
  have hf := Nat.mod_lt (bn_mag k x) (Nat.two_pow_pos (bn_P k - 1))
  have hy : bn_V k y = (2^(bn_P k - 1) + bn_mag k y % 2^(bn_P k - 1)) * 2^(bn_ex k y - 1) := by
    unfold bn_V bn_M; rw [bn_S_ex, if_neg (by omega)]
  have hy2 : 2^(bn_P k - 1) * 2^(bn_ex k y - 1) ≤ bn_V k y := by rw [hy]; exact Nat.mul_le_mul_right _ (by omega)
  have hx : bn_V k x < 2^(bn_P k - 1) * 2^(bn_ex k x) := by
    unfold bn_V bn_M; rw [bn_S_ex]
    by_cases q : bn_ex k x = 0
    · rw [if_pos q, q]
      have := bn_mag_ex k x
      rw [q] at this
      simp; omega
    · rw [if_neg q, show 2^bn_ex k x = 2 * 2^(bn_ex k x - 1) by rw [← Nat.pow_succ']; congr 1; omega, ← Nat.mul_assoc]
      exact Nat.mul_lt_mul_of_pos_right (by omega) (Nat.two_pow_pos _)
  have : 2^(bn_P k - 1) * 2^(bn_ex k x) ≤ 2^(bn_P k - 1) * 2^(bn_ex k y - 1) := Nat.mul_le_mul_left _ (Nat.pow_le_pow_right (by decide) (by omega))
  omega
theorem bn_V_mono {k : Nat} {x y : Int64} (h : bn_mag k x ≤ bn_mag k y) : bn_V k x ≤ bn_V k y := by
  have he : bn_ex k x ≤ bn_ex k y := Nat.div_le_div_right h
  rcases Nat.lt_or_eq_of_le he with q | q
  · exact Nat.le_of_lt (bn_V_lt_of_ex q)
  · have hx := bn_mag_ex k x
    have hy := bn_mag_ex k y
    rw [q] at hx
    unfold bn_V bn_M
    rw [bn_S_ex, bn_S_ex, q]
    apply Nat.mul_le_mul_right
    split
    · exact h
    · omega
theorem bn_V_eq {k : Nat} {x y : Int64} (h : bn_V k x = bn_V k y) : bn_mag k x = bn_mag k y := by
  rcases Nat.lt_trichotomy (bn_ex k x) (bn_ex k y) with q | q | q
  · have := bn_V_lt_of_ex q; omega
  · have hx := bn_mag_ex k x
    have hy := bn_mag_ex k y
    rw [q] at hx
    unfold bn_V bn_M at h
    rw [bn_S_ex, bn_S_ex, q] at h
    have := Nat.eq_of_mul_eq_mul_right (Nat.two_pow_pos _) h
    split at this <;> omega
  · have := bn_V_lt_of_ex q; omega
theorem bn_S_mono {k : Nat} {x y : Int64} (h : bn_mag k x ≤ bn_mag k y) : bn_S k x ≤ bn_S k y := by
  have he : bn_ex k x ≤ bn_ex k y := Nat.div_le_div_right h
  unfold bn_S; omega
theorem bn_tr_big {d r : Nat} (h : r < 2^d) : bn_tr d r = if r = 0 then 0 else 1 := by
  unfold bn_tr
  rw [Nat.div_eq_of_lt h, Nat.mod_eq_of_lt h]
theorem bn_tr_add (d G R : Nat) (hG : G % 2 = 0) : bn_tr d (G * 2^d + R) = G + bn_tr d R := by
  unfold bn_tr
  rw [Nat.mul_comm, Nat.mul_add_mod, Nat.mul_add_div (Nat.two_pow_pos d)]
  split <;> omega
theorem bn_tr_sub (d G R : Nat) (hG : G % 2 = 0) (h : R ≤ G * 2^d) : bn_tr d (G * 2^d - R) = G - bn_tr d R ∧ bn_tr d R ≤ G := by
  have hp := Nat.two_pow_pos d
  have hR := Nat.div_add_mod R (2^d)
  have hm := Nat.mod_lt R hp
  rcases Nat.eq_zero_or_pos (R % 2^d) with q | q
  · have e : G * 2^d - R = (G - R / 2^d) * 2^d := by
      rw [Nat.sub_mul, Nat.mul_comm (R / 2^d)]; omega
    have hle : R / 2^d ≤ G := by
      rw [Nat.mul_comm] at h
      exact Nat.div_le_of_le_mul h
    unfold bn_tr
    rw [e, if_pos (Nat.mul_mod_left _ _), Nat.mul_div_cancel _ hp, if_pos q]
    exact ⟨rfl, hle⟩
  · have hlt : R / 2^d < G := by
      rw [Nat.div_lt_iff_lt_mul hp]
      rcases Nat.lt_or_eq_of_le h with w | w
      · exact w
      · rw [w, Nat.mul_mod_left] at q; omega
    have e : G * 2^d - R = 2^d * (G - R / 2^d - 1) + (2^d - R % 2^d) := by
      obtain ⟨c, hc⟩ : ∃ c, G = R / 2^d + 1 + c := ⟨G - R / 2^d - 1, by omega⟩
      have : G - R / 2^d - 1 = c := by omega
      rw [this, hc, Nat.add_mul, Nat.add_mul, Nat.one_mul, Nat.mul_comm (R / 2^d), Nat.mul_comm c]
      omega
    have hm1 : (G * 2^d - R) % 2^d = 2^d - R % 2^d := by rw [e, Nat.mul_add_mod, Nat.mod_eq_of_lt (by omega)]
    have hd1 : (G * 2^d - R) / 2^d = G - R / 2^d - 1 := by rw [e, Nat.mul_add_div hp, Nat.div_eq_of_lt (a := 2^d - R % 2^d) (by omega), Nat.add_zero]
    unfold bn_tr
    rw [hm1, hd1, if_neg (by omega), if_neg (by omega)]
    omega
theorem bn_trace (r : Int64) (b : Int32) (d : Nat) (hb : b.toInt = d) (hr : bn_u r < 2^63) : bn_u (fFloating_shiftedWithTrace r b) = bn_tr d (bn_u r) := by
  have z63 : (63 : Int32).toInt = 63 := rfl
  unfold fFloating_shiftedWithTrace
  by_cases q : b ≤ 63
  · rw [if_pos q]
    rw [Int32.le_iff_toInt_le, z63] at q
    unfold fFloating_shiftedWithTrace_22
    have s1 : bn_u (bn_shr r b) = bn_u r / 2^d := bn_shr_u hb (by omega)
    have hdm := Nat.div_add_mod (bn_u r) (2^d)
    have s2 : bn_u (bn_shl (bn_shr r b) b) = bn_u r / 2^d * 2^d := by
      rw [bn_shl_u hb (by omega)] <;> rw [s1]
      rw [Nat.mul_comm]; omega
    have c : (bn_shl (bn_shr r b) b = r) ↔ bn_u r % 2^d = 0 := by
      rw [bn_u_eq, s2, Nat.mul_comm]; omega
    simp only [c]
    unfold bn_tr
    split
    · exact s1
    · rw [bn_u_or, s1, show bn_u 1 = 1 from rfl, bn_or_one]
  · rw [if_neg q]
    rw [Int32.le_iff_toInt_le, z63] at q
    have hp : 2^63 ≤ 2^d := Nat.pow_le_pow_right (by decide) (by omega)
    rw [bn_tr_big (by omega)]
    have : (r = 0) ↔ bn_u r = 0 := bn_u_zero
    simp only [this]
    split <;> rfl

theorem bn_tr_pos {d n : Nat} (h : 0 < n) : 0 < bn_tr d n := by
  unfold bn_tr
  split
  · next q =>
    have := Nat.div_add_mod n (2^d)
    rcases Nat.eq_zero_or_pos (n / 2^d) with w | w
    · rw [w, q] at this; omega
    · exact w
  · omega
theorem bn_rn_trace (P : Nat) (mn : Int) (n : Nat) (e : Int) (d : Nat) (h0 : 0 < n) (h : n % 2^d = 0 ∨ d + P + 2 ≤ bn_len n) : bn_rn P mn (bn_tr d n) (e + d) = bn_rn P mn n e := by
  by_cases q : n % 2^d = 0
  · have hn : n = n / 2^d * 2^d := by have := Nat.div_add_mod n (2^d); rw [Nat.mul_comm]; omega
    have hq : 0 < n / 2^d := by
      rcases Nat.eq_zero_or_pos (n / 2^d) with w | w
      · rw [w, Nat.zero_mul] at hn; omega
      · exact w
    have := bn_rn_mul P mn (n / 2^d) e d hq
    rw [← hn] at this
    rw [this, bn_tr, if_pos q]
  · have hl : d + P + 2 ≤ bn_len n := by rcases h with w | w; exact absurd w q; exact w
    exact bn_rn_tr P mn n e d (bn_lt_len.mp (by omega)) (by unfold bn_ns; omega)
set_option maxHeartbeats 1000000 in
theorem bn_sum_rows (k : Nat) (g s : Int64) (hg : bn_ok k g) (hs : bn_ok k s) (hgs : bn_mag k s ≤ bn_mag k g) :
    let lift : Int32 := 62 - fm_places k
    let G := bn_shl (fFormat_significand k g) lift
    let R := fFloating_shiftedWithTrace (bn_shl (fFormat_significand k s) lift) (fFormat_scale k g - fFormat_scale k s)
    (bn_u (G + R) = 0 ↔ bn_V k g + bn_V k s = 0) ∧ (bn_u (G - R) = 0 ↔ bn_V k g = bn_V k s) ∧
    (bn_V k g + bn_V k s ≠ 0 → ∀ neg, fFormat_rounded k neg (G + R) (fFormat_scale k g - lift) = bn_out k neg (bn_V k g + bn_V k s) (bn_mn k)) ∧
    (bn_V k g ≠ bn_V k s → ∀ neg, fFormat_rounded k neg (G - R) (fFormat_scale k g - lift) = bn_out k neg (bn_V k g - bn_V k s) (bn_mn k)) := by
  intro lift G R
  have hP := bn_P_le k
  have hmn := bn_mn_le k
  have mg := bn_signif k g hg
  have ms := bn_signif k s hs
  have sg := bn_scale k g hg
  have ss := bn_scale k s hs
  have mgl := bn_M_lt k g
  have msl := bn_M_lt k s
  have sg1 := bn_S_ge k g
  have sg2 := bn_S_le k g
  have ss1 := bn_S_ge k s
  have ss2 := bn_S_le k s
  have hSS := bn_S_mono hgs
  have hVV := bn_V_mono hgs
  have z62 : (62 : Int32).toInt = 62 := rfl
  have hlift : lift.toInt = (62 - bn_P k : Nat) := by
    show (62 - fm_places k).toInt = _
    rw [bn_i_sub] <;> rw [bn_places, z62] <;> omega
  obtain ⟨L, hL⟩ : ∃ L, L = 62 - bn_P k := ⟨_, rfl⟩
  rw [← hL] at hlift
  have hLP : 2^bn_P k * 2^L = 2^62 := by rw [← Nat.pow_add]; congr 1; omega
  have uG : bn_u G = bn_M k g * 2^L := by
    have : bn_M k g * 2^L < 2^62 := by rw [← hLP]; exact Nat.mul_lt_mul_of_pos_right mgl (Nat.two_pow_pos L)
    show bn_u (bn_shl _ lift) = _
    rw [bn_shl_u hlift (by omega)] <;> rw [mg]; omega
  have uGl : bn_M k g * 2^L < 2^62 := by rw [← hLP]; exact Nat.mul_lt_mul_of_pos_right mgl (Nat.two_pow_pos L)
  have uRl : bn_M k s * 2^L < 2^62 := by rw [← hLP]; exact Nat.mul_lt_mul_of_pos_right msl (Nat.two_pow_pos L)
  have uR0 : bn_u (bn_shl (fFormat_significand k s) lift) = bn_M k s * 2^L := by
    rw [bn_shl_u hlift (by omega)] <;> rw [ms]; omega
  obtain ⟨d, hd⟩ : ∃ d : Nat, bn_S k g - bn_S k s = d := ⟨(bn_S k g - bn_S k s).toNat, by omega⟩
  have hdi : (fFormat_scale k g - fFormat_scale k s).toInt = d := by rw [bn_i_sub] <;> omega
  have uR : bn_u R = bn_tr d (bn_M k s * 2^L) := by
    show bn_u (fFloating_shiftedWithTrace _ _) = _
    rw [bn_trace _ _ d hdi (by omega), uR0]
  have hGe : bn_M k g * 2^L % 2 = 0 := by
    rw [show 2^L = 2 * 2^(L-1) by rw [← Nat.pow_succ']; congr 1; omega, ← Nat.mul_assoc, Nat.mul_right_comm]
    omega
  have hVg : bn_V k g = bn_M k g * 2^d * 2^(bn_S k s - bn_mn k).toNat := by
    unfold bn_V; rw [Nat.mul_assoc, ← Nat.pow_add]; congr 2; omega
  have hVs : bn_V k s = bn_M k s * 2^(bn_S k s - bn_mn k).toNat := rfl
  have hle : bn_M k s ≤ bn_M k g * 2^d := by
    rw [hVg, hVs] at hVV
    exact Nat.le_of_mul_le_mul_right hVV (Nat.two_pow_pos _)
  have tp := Nat.two_pow_pos (bn_S k s - bn_mn k).toNat
  have hRle : bn_M k s * 2^L ≤ bn_M k g * 2^L * 2^d := by
    rw [Nat.mul_right_comm]; exact Nat.mul_le_mul_right _ hle
  have hadd := bn_tr_add d (bn_M k g * 2^L) (bn_M k s * 2^L) hGe
  obtain ⟨hsub, htle⟩ := bn_tr_sub d (bn_M k g * 2^L) (bn_M k s * 2^L) hGe hRle
  have htl : bn_tr d (bn_M k s * 2^L) ≤ 2^62 := by omega
  have uadd : bn_u (G + R) = bn_tr d (bn_M k g * 2^L * 2^d + bn_M k s * 2^L) := by
    rw [bn_add_u] <;> rw [uG, uR]
    · exact hadd.symm
    · omega
  have usub : bn_u (G - R) = bn_tr d (bn_M k g * 2^L * 2^d - bn_M k s * 2^L) := by
    rw [bn_sub_u] <;> rw [uG, uR]
    · exact hsub.symm
    · exact htle
  have eadd : bn_M k g * 2^L * 2^d + bn_M k s * 2^L = (bn_M k g * 2^d + bn_M k s) * 2^L := by
    rw [Nat.add_mul, Nat.mul_right_comm]
  have esub : bn_M k g * 2^L * 2^d - bn_M k s * 2^L = (bn_M k g * 2^d - bn_M k s) * 2^L := by
    rw [Nat.sub_mul, Nat.mul_right_comm]
  have vadd : bn_V k g + bn_V k s = (bn_M k g * 2^d + bn_M k s) * 2^(bn_S k s - bn_mn k).toNat := by rw [hVg, hVs, Nat.add_mul]
  have vsub : bn_V k g - bn_V k s = (bn_M k g * 2^d - bn_M k s) * 2^(bn_S k s - bn_mn k).toNat := by rw [hVg, hVs, Nat.sub_mul]
  have hLp := Nat.two_pow_pos L
  have hlong : ∀ n : Nat, n * 2^L % 2^d = 0 ∨ 10 ≤ d := by
    intro n
    rcases Nat.lt_or_ge d 10 with q | q
    · left
      have : L = (L - d) + d := by omega
      rw [this, Nat.pow_add, ← Nat.mul_assoc, Nat.mul_mod_left]
    · right; exact q
  have hbig : 10 ≤ d → 2^60 * 2^d ≤ bn_M k g * 2^L * 2^d - bn_M k s * 2^L := by
    intro q
    have h1 := bn_M_ge k g (by omega)
    have h2 : 2^(bn_P k - 1) * 2^L = 2^61 := by rw [← Nat.pow_add]; congr 1; omega
    have h3 : 2^61 ≤ bn_M k g * 2^L := by rw [← h2]; exact Nat.mul_le_mul_right _ h1
    have h4 := Nat.mul_le_mul_right (2^d) h3
    have h5 : 2^10 ≤ 2^d := Nat.pow_le_pow_right (by decide) q
    omega
  have scl : (fFormat_scale k g - lift).toInt = bn_S k s - L + d := by rw [bn_i_sub] <;> omega
  have main : ∀ (n : Nat) (mm : Int64) (neg : Int32), 0 < n → bn_u mm = bn_tr d (n * 2^L) → bn_u mm < 2^63 → (n * 2^L % 2^d = 0 ∨ d + bn_P k + 2 ≤ bn_len (n * 2^L)) →
      fFormat_rounded k neg mm (fFormat_scale k g - lift) = bn_out k neg (n * 2^(bn_S k s - bn_mn k).toNat) (bn_mn k) := by
    intro n mm neg hn hmu hml hc
    have hnL : 0 < n * 2^L := Nat.mul_pos hn hLp
    have hm0 : mm ≠ 0 := by
      intro q; rw [bn_u_zero, hmu] at q
      have := bn_tr_pos (d := d) hnL
      omega
    rw [bn_rounded k neg mm _ hm0 (by omega) (Or.inl hml), scl, hmu, bn_rn_trace _ _ _ _ _ hnL hc, bn_rn_mul _ _ _ _ _ hn, bn_out, bn_rn_mul _ _ _ _ _ hn]
    rw [show bn_S k s - L + L = bn_mn k + ((bn_S k s - bn_mn k).toNat : Int) by omega]
  refine ⟨?_, ?_, ?_, ?_⟩
  · rw [uadd, eadd, vadd]
    rcases Nat.eq_zero_or_pos (bn_M k g * 2^d + bn_M k s) with q | q
    · rw [q]; simp [bn_tr]
    · have h1 := bn_tr_pos (d := d) (Nat.mul_pos q hLp)
      have h2 := Nat.mul_pos q tp
      omega
  · rw [usub, esub]
    have : (bn_V k g = bn_V k s) ↔ (bn_M k g * 2^d - bn_M k s) * 2^(bn_S k s - bn_mn k).toNat = 0 := by rw [← vsub]; omega
    rw [this]
    rcases Nat.eq_zero_or_pos (bn_M k g * 2^d - bn_M k s) with q | q
    · rw [q]; simp [bn_tr]
    · have h1 := bn_tr_pos (d := d) (Nat.mul_pos q hLp)
      have h2 := Nat.mul_pos q tp
      omega
  · intro hne neg
    rw [vadd] at hne ⊢
    have q : 0 < bn_M k g * 2^d + bn_M k s := by
      rcases Nat.eq_zero_or_pos (bn_M k g * 2^d + bn_M k s) with q | q
      · rw [q, Nat.zero_mul] at hne; exact absurd rfl hne
      · exact q
    apply main _ _ _ q
    · rw [uadd, eadd]
    · rw [uadd, hadd]; omega
    · rcases hlong (bn_M k g * 2^d + bn_M k s) with w | w
      · exact Or.inl w
      · right
        have hb := hbig w
        rw [← eadd]
        have h60 : 2^(60 + d) ≤ bn_M k g * 2^L * 2^d + bn_M k s * 2^L := by rw [Nat.pow_add]; omega
        have := bn_lt_len.mpr h60
        omega
  · intro hne neg
    have hne' : bn_V k g - bn_V k s ≠ 0 := by omega
    rw [vsub] at hne' ⊢
    have q : 0 < bn_M k g * 2^d - bn_M k s := by
      rcases Nat.eq_zero_or_pos (bn_M k g * 2^d - bn_M k s) with q | q
      · rw [q, Nat.zero_mul] at hne'; exact absurd rfl hne'
      · exact q
    apply main _ _ _ q
    · rw [usub, esub]
    · rw [usub, hsub]; omega
    · rcases hlong (bn_M k g * 2^d - bn_M k s) with w | w
      · exact Or.inl w
      · right
        have hb := hbig w
        rw [← esub]
        have h60 : 2^(60 + d) ≤ bn_M k g * 2^L * 2^d - bn_M k s * 2^L := by rw [Nat.pow_add]; omega
        have := bn_lt_len.mpr h60
        omega

theorem bn_rounded_zero (k : Nat) (neg : Int32) (e : Int32) : fFormat_rounded k neg 0 e = fFormat_signed k neg 0 := by
  unfold fFormat_rounded; rw [if_pos rfl]
theorem bn_mag_lt_iff (k : Nat) (x y : Int64) (hx : bn_ok k x) (hy : bn_ok k y) : fFormat_magnitude k x < fFormat_magnitude k y ↔ bn_mag k x < bn_mag k y := by
  have h1 := bn_magnitude k x hx
  have h2 := bn_magnitude k y hy
  have := bn_mag_lt63 k x
  have := bn_mag_lt63 k y
  rw [bn_lt (by omega) (by omega), h1, h2]
theorem bn_V_lt_iff (k : Nat) (x y : Int64) : bn_V k x < bn_V k y ↔ bn_mag k x < bn_mag k y := by
  constructor
  · intro h
    rcases Nat.lt_or_ge (bn_mag k x) (bn_mag k y) with q | q
    · exact q
    · have := bn_V_mono q; omega
  · intro h
    have h1 := bn_V_mono (Nat.le_of_lt h)
    rcases Nat.lt_or_eq_of_le h1 with q | q
    · exact q
    · have := bn_V_eq q; omega
def bn_sum (k : Nat) (x y : Int64) : Int64 :=
  if fFormat_isNegative k x = fFormat_isNegative k y then
    (if bn_V k x + bn_V k y = 0 then fFormat_signed k (fFormat_isNegative k x) 0 else bn_out k (fFormat_isNegative k x) (bn_V k x + bn_V k y) (bn_mn k))
  else (if bn_V k x = bn_V k y then fFormat_signed k 0 0
    else (if bn_V k x < bn_V k y then bn_out k (fFormat_isNegative k y) (bn_V k y - bn_V k x) (bn_mn k) else bn_out k (fFormat_isNegative k x) (bn_V k x - bn_V k y) (bn_mn k)))
theorem bn_neg01 (k : Nat) (x : Int64) : fFormat_isNegative k x = 0 ∨ fFormat_isNegative k x = 1 := by
  unfold fFormat_isNegative; split
  · exact Or.inl rfl
  · exact Or.inr rfl
theorem bn_sum_fin (k : Nat) (x y : Int64) (hx : bn_ok k x) (hy : bn_ok k y) (x1 : fFormat_isInfinite k x = 0) (y1 : fFormat_isInfinite k y = 0) :
    fFloating_sum k x y = bn_sum k x y := by
  unfold fFloating_sum
  rw [if_pos x1, if_pos y1]
  have d10 : ((1 : Int32) = 0) = False := by decide
  unfold bn_sum
  by_cases hm : fFormat_magnitude k x < fFormat_magnitude k y
  · rw [if_pos hm]
    rw [bn_mag_lt_iff k x y hx hy] at hm
    have hV := (bn_V_lt_iff k x y).mpr hm
    obtain ⟨h1, h2, h3, h4⟩ := bn_sum_rows k y x hy hx (Nat.le_of_lt hm)
    simp only [fFloating_sum_42, fFloating_sum_54, fFloating_sum_66, fFloating_sum_77, fFloating_sum_88, fFloating_sum_115, fFloating_sum_133, fFloating_sum_153, fFloating_sum_155, fFloating_sum_179, fFloating_sum_189, fFloating_sum_191, if_true, d10, if_false]
    generalize bn_shl (fFormat_significand k y) (62 - fm_places k) = G at *
    generalize fFloating_shiftedWithTrace (bn_shl (fFormat_significand k x) (62 - fm_places k)) (fFormat_scale k y - fFormat_scale k x) = R at *
    rw [← bn_u_zero] at h1 h2
    by_cases hs : fFormat_isNegative k x = fFormat_isNegative k y
    · have g1 : ¬ G + R = 0 := fun w => by rw [h1] at w; omega
      rw [if_pos hs, if_pos hs, if_neg g1, if_neg (show ¬ bn_V k x + bn_V k y = 0 by omega), h3 (by omega), Nat.add_comm, hs]
    · have g1 : ¬ G - R = 0 := fun w => by rw [h2] at w; omega
      rw [if_neg hs, if_neg hs, if_neg g1, if_neg (show ¬ bn_V k x = bn_V k y by omega), if_pos hV, h4 (by omega)]
  · rw [if_neg hm]
    rw [bn_mag_lt_iff k x y hx hy] at hm
    have hV : bn_V k y ≤ bn_V k x := bn_V_mono (by omega)
    obtain ⟨h1, h2, h3, h4⟩ := bn_sum_rows k x y hx hy (by omega)
    simp only [fFloating_sum_42, fFloating_sum_54, fFloating_sum_66, fFloating_sum_77, fFloating_sum_88, fFloating_sum_115, fFloating_sum_133, fFloating_sum_153, fFloating_sum_155, fFloating_sum_179, fFloating_sum_189, fFloating_sum_191, if_true, d10, if_false]
    generalize bn_shl (fFormat_significand k x) (62 - fm_places k) = G at *
    generalize fFloating_shiftedWithTrace (bn_shl (fFormat_significand k y) (62 - fm_places k)) (fFormat_scale k x - fFormat_scale k y) = R at *
    rw [← bn_u_zero] at h1 h2
    by_cases hs : fFormat_isNegative k x = fFormat_isNegative k y
    · rw [if_pos hs, if_pos hs]
      by_cases h0 : bn_V k x + bn_V k y = 0
      · have g := h1.mpr h0
        rw [if_pos g, g, if_pos h0]
        rcases bn_neg01 k x with w | w
        · rw [w, if_pos rfl, bn_rounded_zero]
        · rw [w, if_neg (by decide), bn_rounded_zero]
      · rw [if_neg (fun w => h0 (h1.mp w)), if_neg h0, h3 h0]
    · rw [if_neg hs, if_neg hs]
      by_cases h0 : bn_V k x = bn_V k y
      · have g := h2.mpr h0
        rw [if_pos g, g, if_pos h0]
        rw [bn_rounded_zero]
      · rw [if_neg (fun w => h0 (h2.mp w)), if_neg h0, if_neg (by omega), h4 h0]
end
section
theorem bn_flip (x : Int64) : (x ^^^ (-9223372036854775808)).toInt = (bn_u x : Int) - 2^63 := by
  have h := bn_u_lt x
  have e : bn_u (x ^^^ (-9223372036854775808)) = bn_u x ^^^ 2^63 := by rw [bn_u_xor]; rfl
  have e2 : bn_u x ^^^ 2^63 = (bn_u x + 2^63) % 2^64 := by
    rcases Nat.lt_or_ge (bn_u x) (2^63) with q | q
    · have h1 := Nat.two_pow_add_eq_or_of_lt (i := 63) q 1
      rw [Nat.mul_one] at h1
      rw [Nat.mod_eq_of_lt (by omega), Nat.add_comm, h1]
      apply Nat.eq_of_testBit_eq
      intro i
      rw [Nat.testBit_xor, Nat.testBit_or, Nat.testBit_two_pow]
      by_cases w : 63 = i
      · subst w; rw [Nat.testBit_lt_two_pow q]; rfl
      · simp [w]
    · obtain ⟨b, hb⟩ : ∃ b, bn_u x = 2^63 + b := ⟨bn_u x - 2^63, by omega⟩
      have hbl : b < 2^63 := by omega
      have h1 := Nat.two_pow_add_eq_or_of_lt (i := 63) hbl 1
      rw [Nat.mul_one] at h1
      rw [hb]
      have : (2^63 + b + 2^63) % 2^64 = b := by omega
      rw [this, h1]
      apply Nat.eq_of_testBit_eq
      intro i
      rw [Nat.testBit_xor, Nat.testBit_or, Nat.testBit_two_pow]
      by_cases w : 63 = i
      · subst w; rw [Nat.testBit_lt_two_pow hbl]; rfl
      · simp [w]
  rw [bn_s_u, e, e2]
  split <;> omega
theorem bn_cmp (x y : Int64) : fLong_compare x y = if x.toInt < y.toInt then -1 else if x.toInt = y.toInt then 0 else 1 := by
  unfold fLong_compare
  have h1 : (y ≤ x) ↔ y.toInt ≤ x.toInt := Int64.le_iff_toInt_le
  have h2 : (x = y) ↔ x.toInt = y.toInt := Int64.toInt_inj.symm
  simp only [h1, h2]
  by_cases a : x.toInt < y.toInt
  · rw [if_neg (by omega), if_pos a]
  · rw [if_pos (by omega), if_neg a]
theorem bn_order (x y : Int64) : fWhole_orderWithoutSign x y = if bn_u x < bn_u y then -1 else if bn_u x = bn_u y then 0 else 1 := by
  unfold fWhole_orderWithoutSign
  rw [bn_cmp, bn_flip, bn_flip]
  have h1 : ((bn_u x : Int) - 2^63 < (bn_u y : Int) - 2^63) ↔ bn_u x < bn_u y := by omega
  have h2 : ((bn_u x : Int) - 2^63 = (bn_u y : Int) - 2^63) ↔ bn_u x = bn_u y := by omega
  simp only [h1, h2]
theorem bn_order_ge (x y : Int64) : (0 ≤ fWhole_orderWithoutSign x y) ↔ bn_u y ≤ bn_u x := by
  rw [bn_order]
  by_cases a : bn_u x < bn_u y
  · rw [if_pos a]
    exact ⟨fun w => absurd w (by decide), fun w => by omega⟩
  · rw [if_neg a]
    split
    · exact ⟨fun _ => by omega, fun _ => by decide⟩
    · exact ⟨fun _ => by omega, fun _ => by decide⟩
theorem bn_order_gt (x y : Int64) : (0 < fWhole_orderWithoutSign x y) ↔ bn_u y < bn_u x := by
  rw [bn_order]
  by_cases a : bn_u x < bn_u y
  · rw [if_pos a]
    exact ⟨fun w => absurd w (by decide), fun w => by omega⟩
  · rw [if_neg a]
    split
    · exact ⟨fun w => absurd w (by decide), fun _ => by omega⟩
    · exact ⟨fun _ => by omega, fun _ => by decide⟩
theorem bn_div_u {x y : Int64} (hx : bn_u x < 2^63) (hy : bn_u y < 2^63) : bn_u (x / y) = bn_u x / bn_u y := by
  have hne : x ≠ Int64.minValue := by
    intro q; rw [q] at hx; revert hx; decide
  have h := Int64.toInt_div_of_ne_left x y hne
  rw [bn_s_pos hx, bn_s_pos hy] at h
  rw [show ((bn_u x : Int).tdiv (bn_u y : Int)) = ((bn_u x / bn_u y : Nat) : Int) from rfl] at h
  have h2 := bn_s_u (x / y)
  have h3 : bn_u x / bn_u y ≤ bn_u x := Nat.div_le_self _ _
  have h4 := bn_u_lt (x / y)
  generalize bn_u x / bn_u y = Q at *
  rw [h] at h2
  split at h2 <;> omega
theorem bn_quoU (x y : Int64) (hy : y ≠ 0) : bn_u (fWhole_quotientWithoutSign x y) = bn_u x / bn_u y := by
  have hx := bn_u_lt x
  have hyl := bn_u_lt y
  have hy0 : bn_u y ≠ 0 := fun q => hy (bn_u_zero.mpr q)
  have hpos : (0 < y) ↔ bn_u y < 2^63 := by
    rw [Int64.lt_iff_toInt_lt, bn_s_u y]
    show (0 : Int) < _ ↔ _
    split <;> omega
  unfold fWhole_quotientWithoutSign
  by_cases q : bn_u y < 2^63
  · rw [if_pos (hpos.mpr q)]
    unfold fWhole_quotientWithoutSign_31
    have z1 : (1 : Int32).toInt = (1 : Nat) := rfl
    have s1 : bn_u (bn_shr x 1) = bn_u x / 2 := by rw [bn_shr_u z1 (by decide)]
    have s2 : bn_u (bn_shr x 1 / y) = bn_u x / 2 / bn_u y := by rw [bn_div_u (by omega) q, s1]
    have hle : bn_u x / 2 / bn_u y ≤ bn_u x / 2 := Nat.div_le_self _ _
    have s3 : bn_u (bn_shr x 1 / y * 2) = bn_u x / 2 / bn_u y * 2 := by
      rw [bn_mul_u (by rw [s2]; show _ * 2 < _; omega), s2]; rfl
    generalize bn_shr x 1 / y * 2 = Q at *
    have h1 := Nat.div_add_mod (bn_u x / 2) (bn_u y)
    have h2 := Nat.mod_lt (bn_u x / 2) (Nat.pos_of_ne_zero hy0)
    generalize hA : bn_u x / 2 / bn_u y = A at *
    generalize hR : bn_u x / 2 % bn_u y = R at *
    have hYA : bn_u y * A ≤ bn_u x / 2 := by omega
    have s4 : bn_u (Q * y) = 2 * (bn_u y * A) := by
      have : A * 2 * bn_u y = 2 * (bn_u y * A) := by rw [Nat.mul_comm A 2, Nat.mul_assoc, Nat.mul_comm A]
      rw [bn_mul_u] <;> rw [s3, this]; omega
    have s5 : bn_u (x - Q * y) = bn_u x - 2 * (bn_u y * A) := by
      rw [bn_sub_u] <;> rw [s4]; omega
    have hres : bn_u x - 2 * (bn_u y * A) < 2 * bn_u y := by omega
    have hx2 : bn_u x = bn_u y * (2 * A) + (bn_u x - 2 * (bn_u y * A)) := by
      rw [Nat.mul_left_comm]; omega
    have hdiv : bn_u x / bn_u y = 2 * A + (bn_u x - 2 * (bn_u y * A)) / bn_u y := by
      conv => lhs; rw [hx2]
      rw [Nat.mul_add_div (Nat.pos_of_ne_zero hy0)]
    by_cases g : bn_u y ≤ bn_u x - 2 * (bn_u y * A)
    · rw [if_pos ((bn_order_ge _ _).mpr (by rw [s5]; exact g))]
      have : (bn_u x - 2 * (bn_u y * A)) / bn_u y = 1 := by
        apply Nat.div_eq_of_lt_le <;> omega
      rw [bn_add_u] <;> rw [s3, show bn_u 1 = 1 from rfl] <;> omega
    · rw [if_neg (fun w => g (by have := (bn_order_ge _ _).mp w; rw [s5] at this; exact this))]
      have : (bn_u x - 2 * (bn_u y * A)) / bn_u y = 0 := Nat.div_eq_of_lt (by omega)
      omega
  · rw [if_neg (fun w => q (hpos.mp w))]
    by_cases g : bn_u y ≤ bn_u x
    · rw [if_pos ((bn_order_ge _ _).mpr g)]
      show 1 = _
      symm; apply Nat.div_eq_of_lt_le <;> omega
    · rw [if_neg (fun w => g ((bn_order_ge _ _).mp w))]
      show 0 = _
      rw [Nat.div_eq_of_lt (by omega)]

def bn_tz (k : Nat) (x : Int64) : Nat := if 0 ≤ bn_S k x then bn_M k x * 2^(bn_S k x).toNat else bn_M k x / 2^(-bn_S k x).toNat
theorem bn_wholePart (m : Int64) (s : Int32) (hm : bn_u m < 2^53) (h : 0 ≤ s.toInt → bn_u m * 2^s.toInt.toNat < 2^64 ∧ s.toInt < 64) (hs : -2000 ≤ s.toInt) :
    bn_u (fConversions_wholePart m s) = if 0 ≤ s.toInt then bn_u m * 2^s.toInt.toNat else bn_u m / 2^(-s.toInt).toNat := by
  have z0 : (0 : Int32).toInt = 0 := rfl
  have z63 : (-63 : Int32).toInt = -63 := rfl
  unfold fConversions_wholePart
  by_cases q : s < 0
  · rw [if_pos q]
    rw [Int32.lt_iff_toInt_lt, z0] at q
    rw [if_neg (show ¬ 0 ≤ s.toInt by omega)]
    by_cases q2 : (-63 : Int32) ≤ s
    · rw [if_pos q2]
      rw [Int32.le_iff_toInt_le, z63] at q2
      exact bn_shr_u (by rw [bn_i_neg] <;> omega) (by omega)
    · rw [if_neg q2]
      rw [Int32.le_iff_toInt_le, z63] at q2
      have : 2^53 ≤ 2^(-s.toInt).toNat := Nat.pow_le_pow_right (by decide) (by omega)
      rw [Nat.div_eq_of_lt (by omega)]; rfl
  · rw [if_neg q]
    rw [Int32.lt_iff_toInt_lt, z0] at q
    have := h (by omega)
    rw [if_pos (show 0 ≤ s.toInt by omega)]
    exact bn_shl_u (by omega) (by omega) (by omega)
theorem bn_M_zero (k : Nat) (x : Int64) (h : bn_M k x = 0) : bn_S k x = bn_mn k := by
  have hp := Nat.two_pow_pos (bn_P k - 1)
  unfold bn_M at h
  split at h
  · next q => unfold bn_S; rw [q]; omega
  · omega
theorem bn_fits (k : Nat) (x lim : Int64) (hx : bn_ok k x) : fConversions_fits k x lim = (if bn_tz k x ≤ bn_u lim then 1 else 0) ∧ (bn_tz k x < 2^64 → bn_u (fConversions_wholePart (fFormat_significand k x) (fFormat_scale k x)) = bn_tz k x) := by
  have mx := bn_signif k x hx
  have sx := bn_scale k x hx
  have mxl := bn_M_lt53 k x
  have sx1 := bn_S_ge k x
  have sx2 := bn_S_le k x
  have hmn := bn_mn_le k
  have hz := bn_M_zero k x
  have hlen := bn_length (fFormat_significand k x)
  rw [mx] at hlen
  have hL : bn_len (bn_M k x) ≤ 53 := bn_len_le.mpr mxl
  have z64 : (64 : Int32).toInt = 64 := rfl
  have h64 : (64 - fWhole_length (fFormat_significand k x)).toInt = 64 - bn_len (bn_M k x) := by
    rw [bn_i_sub] <;> rw [hlen, bn_i_ofNat (by omega), z64]; omega
  have hlim := bn_u_lt lim
  have hfit : (fFormat_scale k x ≤ 64 - fWhole_length (fFormat_significand k x)) ↔ bn_S k x ≤ 64 - bn_len (bn_M k x) := by
    rw [Int32.le_iff_toInt_le, sx, h64]
  have hsm : 0 ≤ bn_S k x → bn_S k x ≤ 64 - bn_len (bn_M k x) → bn_M k x * 2^(bn_S k x).toNat < 2^64 ∧ bn_S k x < 64 := by
    intro h0 h1
    have hM : 0 < bn_M k x := by
      rcases Nat.eq_zero_or_pos (bn_M k x) with q | q
      · have := hz q; omega
      · exact q
    have := bn_len_mul hM (bn_S k x).toNat
    have := bn_len_pos hM
    exact ⟨bn_len_le.mp (by omega), by omega⟩
  have hbig : ¬ bn_S k x ≤ 64 - bn_len (bn_M k x) → 2^64 ≤ bn_tz k x := by
    intro h1
    have hM : 0 < bn_M k x := by
      rcases Nat.eq_zero_or_pos (bn_M k x) with q | q
      · have := hz q; omega
      · exact q
    have := bn_len_mul hM (bn_S k x).toNat
    unfold bn_tz
    rw [if_pos (by omega)]
    exact bn_lt_len.mp (by omega)
  have hwp : bn_S k x ≤ 64 - bn_len (bn_M k x) → bn_u (fConversions_wholePart (fFormat_significand k x) (fFormat_scale k x)) = bn_tz k x := by
    intro h1
    rw [bn_wholePart _ _ (by omega) (by rw [sx, mx]; exact fun h0 => hsm h0 h1) (by omega), sx, mx]; rfl
  refine ⟨?_, fun hlt => hwp ?_⟩
  · unfold fConversions_fits fConversions_fits_7 fConversions_fits_14
    by_cases q : bn_S k x ≤ 64 - bn_len (bn_M k x)
    · rw [if_pos (hfit.mpr q)]
      have ho := bn_order_gt (fConversions_wholePart (fFormat_significand k x) (fFormat_scale k x)) lim
      rw [hwp q] at ho
      simp only [ho]
      by_cases g : bn_tz k x ≤ bn_u lim
      · rw [if_neg (by omega), if_pos g]
      · rw [if_pos (by omega), if_neg g]
    · have := hbig q
      rw [if_neg (fun w => q (hfit.mp w)), if_neg (by omega)]
  · rcases Classical.em (bn_S k x ≤ 64 - bn_len (bn_M k x)) with q | q
    · exact q
    · have := hbig q; omega
def bn_wn (place : Int32) (neg : Int32) (m d : Nat) : Nat :=
  if place = 5 then bn_rne m d else if m % 2^d = 0 then m / 2^d
    else if (place = 2 ∧ neg = 0) ∨ (place = 3 ∧ neg ≠ 0) then m / 2^d + 1 else m / 2^d
theorem bn_whole (place : Int32) (k : Nat) (x : Int64) (hx : bn_ok k x) : fFloating_wholeNumber place k x =
    if 0 ≤ bn_S k x then x else (if bn_wn place (fFormat_isNegative k x) (bn_M k x) (-bn_S k x).toNat = 0 then fFormat_signed k (fFormat_isNegative k x) 0
      else bn_out k (fFormat_isNegative k x) (bn_wn place (fFormat_isNegative k x) (bn_M k x) (-bn_S k x).toNat) 0) := by
  have mx := bn_signif k x hx
  have sx := bn_scale k x hx
  have mxl := bn_M_lt53 k x
  have sx1 := bn_S_ge k x
  have sx2 := bn_S_le k x
  have hmn := bn_mn_le k
  have z0 : (0 : Int32).toInt = 0 := rfl
  have z63 : (63 : Int32).toInt = 63 := rfl
  have hneg : (-(fFormat_scale k x)).toInt = -bn_S k x := by rw [bn_i_neg] <;> omega
  unfold fFloating_wholeNumber fFloating_wholeNumber_8
  have hc : ((0 : Int32) < -(fFormat_scale k x)) ↔ ¬ 0 ≤ bn_S k x := by
    rw [Int32.lt_iff_toInt_lt, hneg, z0]; omega
  by_cases q : 0 ≤ bn_S k x
  · rw [if_neg (fun w => (hc.mp w) q), if_pos q]
  · rw [if_pos (hc.mpr q), if_neg q]
    unfold fFloating_wholeNumber_22 fFloating_wholeNumber_29
    obtain ⟨D, hD⟩ : ∃ D : Nat, -bn_S k x = D := ⟨(-bn_S k x).toNat, by omega⟩
    rw [hD] at hneg
    rw [hD]
    show _ = if bn_wn _ _ _ D = 0 then _ else bn_out k _ (bn_wn _ _ _ D) 0
    generalize -(fFormat_scale k x) = drop at *
    generalize fFormat_isNegative k x = neg at *
    generalize fFormat_significand k x = sig at *
    have fin : ∀ (mm : Int64) (n : Nat), bn_u mm = n → n < 2^63 → fFormat_rounded k neg mm 0 = if n = 0 then fFormat_signed k neg 0 else bn_out k neg n 0 := by
      intro mm n h1 h2
      by_cases w : n = 0
      · rw [if_pos w]
        have : mm = 0 := bn_u_zero.mpr (by omega)
        rw [this, bn_rounded_zero]
      · rw [if_neg w, bn_rounded k neg mm 0 (fun e => by rw [bn_u_zero] at e; omega) (by rw [z0]; omega) (Or.inl (by omega)), h1]; rfl
    have hrl : bn_rne (bn_M k x) D < 2^63 := by
      have := @bn_rne_le (bn_M k x) D
      have := Nat.div_le_self (bn_M k x) (2^D)
      omega
    by_cases p5 : place = 5
    · rw [if_pos p5]
      have e : bn_wn place neg (bn_M k x) D = bn_rne (bn_M k x) D := by unfold bn_wn; rw [if_pos p5]
      rw [e]
      apply fin _ _ _ hrl
      by_cases w : D ≤ 63
      · rw [bn_nearest sig drop D hneg (by omega) w, mx]
      · rw [bn_nearest_high _ _ (by omega)]
        have hp : 2^64 ≤ 2^D := Nat.pow_le_pow_right (by decide) (by omega)
        show 0 = _
        unfold bn_rne
        rw [Nat.div_eq_of_lt (by omega), Nat.mod_eq_of_lt (by omega), if_neg (by omega)]
    · rw [if_neg p5]
      unfold fFloating_wholeNumber_58 fFloating_wholeNumber_65
      have hdr : (fMath_min drop 63).toInt = (min D 63 : Nat) := by rw [bn_i_min, hneg, z63]; omega
      have hq : bn_M k x / 2^(min D 63) = bn_M k x / 2^D ∧ (bn_M k x / 2^(min D 63) * 2^(min D 63) = bn_M k x ↔ bn_M k x % 2^D = 0) := by
        rcases Nat.le_total D 63 with w | w
        · rw [Nat.min_eq_left w]
          refine ⟨rfl, ?_⟩
          have := Nat.div_add_mod (bn_M k x) (2^D)
          rw [Nat.mul_comm] at this
          omega
        · rw [Nat.min_eq_right w]
          have hp : 2^63 ≤ 2^D := Nat.pow_le_pow_right (by decide) w
          rw [Nat.div_eq_of_lt (show bn_M k x < 2^63 by omega), Nat.div_eq_of_lt (show bn_M k x < 2^D by omega), Nat.mod_eq_of_lt (show bn_M k x < 2^D by omega)]
          refine ⟨rfl, ?_⟩
          omega
      have kp : bn_u (bn_shr sig (fMath_min drop 63)) = bn_M k x / 2^D := by
        rw [bn_shr_u hdr (by omega), mx]; exact hq.1
      have kp2 : (bn_shl (bn_shr sig (fMath_min drop 63)) (fMath_min drop 63) = sig) ↔ bn_M k x % 2^D = 0 := by
        have hle := Nat.div_mul_le_self (bn_M k x) (2^(min D 63))
        rw [bn_u_eq, bn_shl_u hdr (by omega)] <;> rw [kp, ← hq.1]
        · rw [mx]; exact hq.2
        · omega
      have hqd := Nat.div_le_self (bn_M k x) (2^D)
      have kp1 : bn_u (bn_shr sig (fMath_min drop 63) + 1) = bn_M k x / 2^D + 1 := by
        rw [bn_add_u] <;> rw [kp, show bn_u 1 = 1 from rfl]; omega
      generalize bn_shr sig (fMath_min drop 63) = kept at *
      simp only [kp2]
      simp only [fFloating_wholeNumber_81, fFloating_wholeNumber_93, fFloating_wholeNumber_103, fFloating_wholeNumber_107, fFloating_wholeNumber_108, fFloating_wholeNumber_130, fFloating_wholeNumber_132]
      have d10 : ((1 : Int32) = 0) = False := by decide
      simp only [d10, if_false, if_true]
      unfold bn_wn
      rw [if_neg p5]
      by_cases c0 : bn_M k x % 2^D = 0
      · rw [if_pos c0, if_pos c0]
        have := fin kept _ kp (by omega)
        rw [← this]
        split <;> split <;> first | rfl | (split <;> first | rfl | (split <;> rfl))
      · rw [if_neg c0, if_neg c0]
        have f1 := fin kept _ kp (by omega)
        have f2 := fin _ _ kp1 (by omega)
        by_cases p2 : place = 2
        · have p3 : ¬ place = 3 := by rw [p2]; decide
          rw [if_pos p2]
          by_cases n0 : neg = 0
          · rw [if_pos n0, if_pos (Or.inl ⟨p2, n0⟩), f2]
          · have nc : ¬ ((place = 2 ∧ neg = 0) ∨ (place = 3 ∧ neg ≠ 0)) := by rintro (⟨_, w⟩ | ⟨w, _⟩); exact n0 w; exact p3 w
            rw [if_neg n0, if_neg p3, if_neg nc, f1]
        · rw [if_neg p2]
          by_cases p3 : place = 3
          · rw [if_pos p3]
            by_cases n0 : neg = 0
            · have nc : ¬ ((place = 2 ∧ neg = 0) ∨ (place = 3 ∧ neg ≠ 0)) := by rintro (⟨w, _⟩ | ⟨_, w⟩); exact p2 w; exact w n0
              rw [if_pos n0, if_neg nc, f1]
            · rw [if_neg n0, if_pos (Or.inr ⟨p3, n0⟩), f2]
          · have nc : ¬ ((place = 2 ∧ neg = 0) ∨ (place = 3 ∧ neg ≠ 0)) := by rintro (⟨w, _⟩ | ⟨w, _⟩); exact p2 w; exact p3 w
            rw [if_neg p3, if_neg nc, f1]
end
section
def bn_pop : Nat → Nat → Nat
  | 0, _ => 0
  | n + 1, x => x % 2 + bn_pop n (x / 2)
theorem bn_pop_add (m n x : Nat) : bn_pop (m + n) x = bn_pop m x + bn_pop n (x / 2^m) := by
  induction m generalizing x with
  | zero => simp [bn_pop]
  | succ m ih =>
    rw [show m + 1 + n = (m + n) + 1 by omega]
    simp only [bn_pop]
    rw [ih, Nat.div_div_eq_div_mul, ← Nat.pow_succ', Nat.add_assoc]
theorem bn_pop_mod (m x : Nat) : bn_pop m (x % 2^m) = bn_pop m x := by
  induction m generalizing x with
  | zero => rfl
  | succ m ih =>
    simp only [bn_pop]
    rw [Nat.pow_succ', Nat.mod_mul, ← ih (x / 2)]
    congr 1
    · omega
    · congr 1; omega
def bn_by (f : Nat → Nat) : Nat → Nat → Nat
  | 0, _ => 0
  | n + 1, x => f (x % 256) + 256 * bn_by f n (x / 256)
def bn_mk (c : Nat) : Nat → Nat
  | 0 => 0
  | n + 1 => c + 256 * bn_mk c n
theorem bn_by_id (n x : Nat) (h : x < 256^n) : bn_by (fun b => b) n x = x := by
  induction n generalizing x with
  | zero => simp [bn_by]; omega
  | succ n ih =>
    simp only [bn_by]
    rw [ih (x / 256) (by rw [Nat.pow_succ] at h; omega)]; omega
theorem bn_by_sub (f g : Nat → Nat) (n x : Nat) (h : ∀ b, b < 256 → g b ≤ f b) : bn_by g n x ≤ bn_by f n x ∧ bn_by f n x - bn_by g n x = bn_by (fun b => f b - g b) n x := by
  induction n generalizing x with
  | zero => simp [bn_by]
  | succ n ih =>
    simp only [bn_by]
    have h1 := h (x % 256) (Nat.mod_lt _ (by decide))
    obtain ⟨h2, h3⟩ := ih (x / 256)
    refine ⟨by omega, ?_⟩
    rw [← h3]; omega
theorem bn_by_add (f g : Nat → Nat) (n x : Nat) : bn_by f n x + bn_by g n x = bn_by (fun b => f b + g b) n x := by
  induction n generalizing x with
  | zero => simp [bn_by]
  | succ n ih => simp only [bn_by]; rw [← ih]; omega
theorem bn_by_by (f g : Nat → Nat) (n x : Nat) (h : ∀ b, b < 256 → g b < 256) : bn_by f n (bn_by g n x) = bn_by (fun b => f (g b)) n x := by
  induction n generalizing x with
  | zero => rfl
  | succ n ih =>
    have h1 := h (x % 256) (Nat.mod_lt _ (by decide))
    simp only [bn_by]
    rw [← ih, show (g (x % 256) + 256 * bn_by g n (x / 256)) % 256 = g (x % 256) by omega, show (g (x % 256) + 256 * bn_by g n (x / 256)) / 256 = bn_by g n (x / 256) by omega]
theorem bn_by_congr (f g : Nat → Nat) (n x : Nat) (h : ∀ b, b < 256 → f b = g b) : bn_by f n x = bn_by g n x := by
  induction n generalizing x with
  | zero => rfl
  | succ n ih => simp only [bn_by]; rw [ih, h _ (Nat.mod_lt _ (by decide))]
theorem bn_by_lt (f : Nat → Nat) (n x : Nat) (h : ∀ b, b < 256 → f b < 256) : bn_by f n x < 256^n := by
  induction n generalizing x with
  | zero => simp [bn_by]
  | succ n ih =>
    simp only [bn_by]
    have h1 := h (x % 256) (Nat.mod_lt _ (by decide))
    have h2 := ih (x / 256)
    rw [Nat.pow_succ]; omega
theorem bn_and_split (a b : Nat) : a &&& b = (a % 256 &&& b % 256) + 256 * (a / 256 &&& b / 256) := by
  have h1 := Nat.div_add_mod (a &&& b) (2^8)
  rw [Nat.and_mod_two_pow, Nat.and_div_two_pow] at h1
  rw [← h1, Nat.add_comm]
theorem bn_and_low {a c k : Nat} (h : c < 2^k) : a &&& c = a % 2^k &&& c := by
  have h1 : (a &&& c) % 2^k = a &&& c := Nat.mod_eq_of_lt (Nat.lt_of_le_of_lt Nat.and_le_right h)
  rw [← h1, Nat.and_mod_two_pow, Nat.mod_eq_of_lt h]
theorem bn_by_mask (s c : Nat) (hs : s ≤ 8) (hc : c < 2^(8 - s)) (n x : Nat) : (x / 2^s) &&& bn_mk c n = bn_by (fun b => (b / 2^s) &&& c) n x := by
  induction n generalizing x with
  | zero => simp [bn_mk, bn_by]
  | succ n ih =>
    simp only [bn_mk, bn_by]
    have hc2 : c < 256 := Nat.lt_of_lt_of_le hc (Nat.pow_le_pow_right (show 0 < 2 by decide) (show 8 - s ≤ 8 by omega))
    rw [bn_and_split, show (c + 256 * bn_mk c n) % 256 = c by omega, show (c + 256 * bn_mk c n) / 256 = bn_mk c n by omega, ← ih]
    congr 1
    · rw [bn_and_low hc, bn_and_low (a := x % 256 / 2^s) hc]
      congr 1
      have e : (256 : Nat) = 2^s * 2^(8 - s) := by rw [← Nat.pow_add, show s + (8 - s) = 8 by omega]
      rw [Nat.mod_mod_of_dvd _ (by rw [show (256 : Nat) = 2^8 from rfl]; exact Nat.pow_dvd_pow 2 (by omega))]
      rw [e, Nat.mod_mul_right_div_self, Nat.mod_mod]
    · congr 2
      rw [Nat.div_div_eq_div_mul, Nat.div_div_eq_div_mul, Nat.mul_comm]
theorem bn_mk55 : bn_mk 0x55 8 = 6148914691236517205 := by decide
theorem bn_mk33 : bn_mk 0x33 8 = 3689348814741910323 := by decide
theorem bn_mk0f : bn_mk 0x0f 8 = 1085102592571150095 := by decide
theorem bn_by_nib (g : Nat → Nat) (hg : ∀ b, b < 256 → g b % 16 ≤ 4 ∧ g b / 16 ≤ 4) (n x : Nat) : (bn_by g n x + bn_by g n x / 16) &&& bn_mk 15 n = bn_by (fun b => (g b + g b / 16) % 16) n x := by
  induction n generalizing x with
  | zero => simp [bn_mk, bn_by]
  | succ n ih =>
    have h1 := hg (x % 256) (Nat.mod_lt _ (by decide))
    simp only [bn_mk, bn_by]
    have hnext : bn_by g n (x / 256) % 16 ≤ 4 := by
      cases n with
      | zero => simp [bn_by]
      | succ n =>
        have := hg (x / 256 % 256) (Nat.mod_lt _ (by decide))
        simp only [bn_by]; omega
    rw [← ih]
    generalize bn_by g n (x / 256) = Y at *
    generalize g (x % 256) = q at *
    rw [bn_and_split, show (15 + 256 * bn_mk 15 n) % 256 = 15 by omega, show (15 + 256 * bn_mk 15 n) / 256 = bn_mk 15 n by omega]
    congr 1
    · rw [show (15 : Nat) = 2^4 - 1 from rfl, bn_and_mask]; omega
    · congr 2; omega

theorem bn_u_l2i (x : Int64) : x.toInt32.toInt = if bn_u x % 2^32 < 2^31 then ((bn_u x % 2^32 : Nat) : Int) else ((bn_u x % 2^32 : Nat) : Int) - 2^32 := by
  rw [bn_v_s, bn_v_l2i]
def bn_t1 (b : Nat) : Nat := b - ((b / 2^1) &&& 0x55)
def bn_t2 (b : Nat) : Nat := ((b / 2^0) &&& 0x33) + ((b / 2^2) &&& 0x33)
theorem bn_t12 : ∀ b : Nat, b < 256 → ((b / 2^1) &&& 0x55) ≤ b ∧ bn_t1 b < 256 ∧ bn_t2 (bn_t1 b) < 256 ∧ bn_t2 (bn_t1 b) % 16 ≤ 4 ∧ bn_t2 (bn_t1 b) / 16 ≤ 4 ∧ (bn_t2 (bn_t1 b) + bn_t2 (bn_t1 b) / 16) % 16 = bn_pop 8 b := by decide +kernel
theorem bn_pop_le (n x : Nat) : bn_pop n x ≤ n := by
  induction n generalizing x with
  | zero => exact Nat.le_refl _
  | succ n ih => simp only [bn_pop]; have := ih (x / 2); omega
theorem bn_pop64 (x : Nat) : bn_pop 64 x = bn_pop 8 (x % 256) + (bn_pop 8 (x / 256 % 256) + (bn_pop 8 (x / 256 / 256 % 256) + (bn_pop 8 (x / 256 / 256 / 256 % 256) + (bn_pop 8 (x / 256 / 256 / 256 / 256 % 256) + (bn_pop 8 (x / 256 / 256 / 256 / 256 / 256 % 256) + (bn_pop 8 (x / 256 / 256 / 256 / 256 / 256 / 256 % 256) + bn_pop 8 (x / 256 / 256 / 256 / 256 / 256 / 256 / 256 % 256))))))) := by
  have h : ∀ n y, bn_pop (8 + n) y = bn_pop 8 (y % 256) + bn_pop n (y / 256) := fun n y => by
    rw [bn_pop_add, show (256 : Nat) = 2^8 from rfl, bn_pop_mod]
  have h0 : ∀ y, bn_pop 8 y = bn_pop 8 (y % 256) := fun y => by rw [show (256 : Nat) = 2^8 from rfl, bn_pop_mod]
  rw [show (64 : Nat) = 8 + (8 + (8 + (8 + (8 + (8 + (8 + 8)))))) from rfl, h, h, h, h, h, h, h]
  rw [h0 (x / 256 / 256 / 256 / 256 / 256 / 256 / 256)]
theorem bn_sum8 (b0 b1 b2 b3 b4 b5 b6 b7 : Nat) (h : b0 ≤ 8 ∧ b1 ≤ 8 ∧ b2 ≤ 8 ∧ b3 ≤ 8 ∧ b4 ≤ 8 ∧ b5 ≤ 8 ∧ b6 ≤ 8 ∧ b7 ≤ 8) (y : Nat)
    (hy : y = b0 + 256 * (b1 + 256 * (b2 + 256 * (b3 + 256 * (b4 + 256 * (b5 + 256 * (b6 + 256 * (b7 + 256 * 0)))))))) :
    y + y / 2^8 < 2^64 ∧ (y + y / 2^8) + (y + y / 2^8) / 2^16 < 2^64 ∧ ((y + y / 2^8) + (y + y / 2^8) / 2^16) + ((y + y / 2^8) + (y + y / 2^8) / 2^16) / 2^32 < 2^64 ∧
    (((y + y / 2^8) + (y + y / 2^8) / 2^16) + ((y + y / 2^8) + (y + y / 2^8) / 2^16) / 2^32) % 128 = b0 + (b1 + (b2 + (b3 + (b4 + (b5 + (b6 + b7)))))) := by
  obtain ⟨h0, h1, h2, h3, h4, h5, h6, h7⟩ := h
  have e1 : y / 2^8 = b1 + 256 * (b2 + 256 * (b3 + 256 * (b4 + 256 * (b5 + 256 * (b6 + 256 * b7))))) := by omega
  obtain ⟨z, hz⟩ : ∃ z, z = y + y / 2^8 := ⟨_, rfl⟩
  have e2 : z = (b0 + b1) + 256 * ((b1 + b2) + 256 * ((b2 + b3) + 256 * ((b3 + b4) + 256 * ((b4 + b5) + 256 * ((b5 + b6) + 256 * ((b6 + b7) + 256 * b7)))))) := by omega
  rw [← hz]
  clear hz hy e1
  have e3 : z / 2^16 = (b2 + b3) + 256 * ((b3 + b4) + 256 * ((b4 + b5) + 256 * ((b5 + b6) + 256 * ((b6 + b7) + 256 * b7)))) := by omega
  obtain ⟨w, hw⟩ : ∃ w, w = z + z / 2^16 := ⟨_, rfl⟩
  have e4 : w = (b0 + b1 + b2 + b3) + 256 * ((b1 + b2 + b3 + b4) + 256 * ((b2 + b3 + b4 + b5) + 256 * ((b3 + b4 + b5 + b6) + 256 * ((b4 + b5 + b6 + b7) + 256 * ((b5 + b6 + b7) + 256 * ((b6 + b7) + 256 * b7)))))) := by omega
  have hzl : z < 2^64 := by omega
  rw [← hw]
  clear hw e3 e2
  have e5 : w / 2^32 = (b4 + b5 + b6 + b7) + 256 * ((b5 + b6 + b7) + 256 * ((b6 + b7) + 256 * b7)) := by omega
  refine ⟨hzl, by omega, by omega, by omega⟩
theorem bn_by_top (f : Nat → Nat) (n x : Nat) (h : ∀ b, b < 256 → f b < 128) : bn_by f (n + 1) x < 128 * 256^n := by
  induction n generalizing x with
  | zero => have := h (x % 256) (Nat.mod_lt _ (by decide)); simp [bn_by]; omega
  | succ n ih =>
    have h1 := h (x % 256) (Nat.mod_lt _ (by decide))
    have h2 := ih (x / 256)
    rw [bn_by, Nat.pow_succ]; omega
theorem bn_bitCount (x : Int64) : fLong_bitCount x = Int32.ofNat (bn_pop 64 (bn_u x)) := by
  have hx := bn_u_lt x
  have z1 : (1 : Int32).toInt = (1 : Nat) := rfl
  have z2 : (2 : Int32).toInt = (2 : Nat) := rfl
  have z4 : (4 : Int32).toInt = (4 : Nat) := rfl
  have z8 : (8 : Int32).toInt = (8 : Nat) := rfl
  have z16 : (16 : Int32).toInt = (16 : Nat) := rfl
  have z32 : (32 : Int32).toInt = (32 : Nat) := rfl
  have k5 : bn_u 6148914691236517205 = bn_mk 0x55 8 := by decide
  have k3 : bn_u 3689348814741910323 = bn_mk 0x33 8 := by decide
  have kf : bn_u 1085102592571150095 = bn_mk 0x0f 8 := by decide
  simp only [fLong_bitCount, fLong_bitCount_10, fLong_bitCount_24, fLong_bitCount_34, fLong_bitCount_41, fLong_bitCount_48, fLong_bitCount_55]
  have e256 : (256 : Nat)^8 = 2^64 := by decide
  have s0 : bn_u (bn_shr x 1 &&& 6148914691236517205) = bn_by (fun b => (b / 2^1) &&& 0x55) 8 (bn_u x) := by
    rw [bn_u_and, bn_shr_u z1 (by decide), k5, bn_by_mask 1 0x55 (by decide) (by decide)]
  have hid := bn_by_id 8 (bn_u x) (by rw [e256]; exact hx)
  have hsub := bn_by_sub (fun b => b) (fun b => (b / 2^1) &&& 0x55) 8 (bn_u x) (fun b hb => (bn_t12 b hb).1)
  rw [hid] at hsub
  have s1 : bn_u (x - (bn_shr x 1 &&& 6148914691236517205)) = bn_by bn_t1 8 (bn_u x) := by
    rw [bn_sub_u] <;> rw [s0]
    · exact hsub.2
    · exact hsub.1
  generalize x - (bn_shr x 1 &&& 6148914691236517205) = y1 at *
  have m2 : bn_by (fun b => ((b / 2^0) &&& 0x33)) 8 (bn_u y1) + bn_by (fun b => ((b / 2^2) &&& 0x33)) 8 (bn_u y1) = bn_by (fun b => bn_t2 (bn_t1 b)) 8 (bn_u x) := by
    rw [bn_by_add, s1]
    exact bn_by_by bn_t2 bn_t1 8 (bn_u x) (fun b hb => (bn_t12 b hb).2.1)
  have l2 := bn_by_lt (fun b => bn_t2 (bn_t1 b)) 8 (bn_u x) (fun b hb => (bn_t12 b hb).2.2.1)
  rw [e256] at l2
  have s2a : bn_u (y1 &&& 3689348814741910323) = bn_by (fun b => ((b / 2^0) &&& 0x33)) 8 (bn_u y1) := by
    rw [bn_u_and, k3, ← bn_by_mask 0 0x33 (by decide) (by decide), Nat.pow_zero, Nat.div_one]
  have s2b : bn_u (bn_shr y1 2 &&& 3689348814741910323) = bn_by (fun b => ((b / 2^2) &&& 0x33)) 8 (bn_u y1) := by
    rw [bn_u_and, bn_shr_u z2 (by decide), k3, ← bn_by_mask 2 0x33 (by decide) (by decide)]
  have s2 : bn_u ((y1 &&& 3689348814741910323) + (bn_shr y1 2 &&& 3689348814741910323)) = bn_by (fun b => bn_t2 (bn_t1 b)) 8 (bn_u x) := by
    rw [bn_add_u] <;> rw [s2a, s2b, m2]; exact l2
  generalize (y1 &&& 3689348814741910323) + (bn_shr y1 2 &&& 3689348814741910323) = y2 at *
  have hn := bn_by_nib (fun b => bn_t2 (bn_t1 b)) (fun b hb => ⟨(bn_t12 b hb).2.2.2.1, (bn_t12 b hb).2.2.2.2.1⟩) 8 (bn_u x)
  rw [bn_by_congr _ (fun b => bn_pop 8 b) 8 (bn_u x) (fun b hb => (bn_t12 b hb).2.2.2.2.2)] at hn
  have s3 : bn_u ((y2 + bn_shr y2 4) &&& 1085102592571150095) = bn_by (fun b => bn_pop 8 b) 8 (bn_u x) := by
    rw [bn_u_and, kf, ← hn, ← s2]
    have hb : bn_u y2 + bn_u (bn_shr y2 4) < 2^64 := by
      rw [bn_shr_u z4 (by decide)]
      have : bn_u y2 < 2^63 := by
        rw [s2]
        have hh2 := bn_by_top (fun b => bn_t2 (bn_t1 b)) 7 (bn_u x) (fun b hb => by have h1 := (bn_t12 b hb).2.2.2.1; have h2 := (bn_t12 b hb).2.2.2.2.1; show bn_t2 (bn_t1 b) < 128; omega)
        rw [show 128 * 256^7 = 2^63 by decide] at hh2
        exact hh2
      omega
    rw [bn_add_u hb, bn_shr_u z4 (by decide)]
  generalize (y2 + bn_shr y2 4) &&& 1085102592571150095 = y3 at *
  have l8 : ∀ y, bn_pop 8 y ≤ 8 := fun y => bn_pop_le 8 y
  obtain ⟨c1, c2, c3, c4⟩ := bn_sum8 _ _ _ _ _ _ _ _ ⟨l8 (bn_u x % 256), l8 (bn_u x / 256 % 256), l8 (bn_u x / 256 / 256 % 256), l8 (bn_u x / 256 / 256 / 256 % 256), l8 (bn_u x / 256 / 256 / 256 / 256 % 256), l8 (bn_u x / 256 / 256 / 256 / 256 / 256 % 256), l8 (bn_u x / 256 / 256 / 256 / 256 / 256 / 256 % 256), l8 (bn_u x / 256 / 256 / 256 / 256 / 256 / 256 / 256 % 256)⟩ (bn_u y3) s3
  rw [← bn_pop64] at c4
  have p4 : bn_u (y3 + bn_shr y3 8) = bn_u y3 + bn_u y3 / 2^8 := by rw [bn_add_u] <;> rw [bn_shr_u z8 (by decide)]; exact c1
  generalize y3 + bn_shr y3 8 = y4 at *
  rw [← p4] at c2 c3 c4
  have p5 : bn_u (y4 + bn_shr y4 16) = bn_u y4 + bn_u y4 / 2^16 := by rw [bn_add_u] <;> rw [bn_shr_u z16 (by decide)]; exact c2
  generalize y4 + bn_shr y4 16 = y5 at *
  rw [← p5] at c3 c4
  have p6 : bn_u (y5 + bn_shr y5 32) = bn_u y5 + bn_u y5 / 2^32 := by rw [bn_add_u] <;> rw [bn_shr_u z32 (by decide)]; exact c3
  generalize y5 + bn_shr y5 32 = y6 at *
  rw [← p6] at c4
  have hle := bn_pop_le 64 (bn_u x)
  apply Int32.toInt_inj.mp
  rw [bn_i_ofNat (by omega), bn_v_s, bn_v_and, bn_v_l2i, show bn_v 127 = 2^7 - 1 from rfl, bn_and_mask]
  split <;> omega

theorem bn_odd_part (n : Nat) (h : 0 < n) : ∃ t a, n = 2^t * (2 * a + 1) := by
  induction n using Nat.strongRecOn with
  | _ n ih =>
    by_cases q : n % 2 = 1
    · exact ⟨0, n / 2, by rw [Nat.pow_zero]; omega⟩
    · obtain ⟨t, a, e⟩ := ih (n / 2) (by omega) (by omega)
      refine ⟨t + 1, a, ?_⟩
      rw [Nat.pow_succ', Nat.mul_assoc, ← e]; omega
theorem bn_low_bit (t a : Nat) (h : 2^t * (2 * a + 1) < 2^64) : 2^t * (2 * a + 1) &&& (2^64 - 2^t * (2 * a + 1)) = 2^t := by
  have ht : t < 64 := by
    rcases Nat.lt_or_ge t 64 with q | q
    · exact q
    · have h1 : 2^64 ≤ 2^t := Nat.pow_le_pow_right (by decide) q
      have h2 := Nat.mul_le_mul_left (2^t) (show 1 ≤ 2 * a + 1 by omega)
      omega
  have e64 : 2^64 = 2^t * (2 * 2^(63 - t)) := by rw [← Nat.pow_succ', ← Nat.pow_add]; congr 1; omega
  have ha : 2 * a + 1 < 2 * 2^(63 - t) := by
    rw [e64] at h; exact Nat.lt_of_mul_lt_mul_left h
  have e2 : 2^64 - 2^t * (2 * a + 1) = 2^t * (2 * (2^(63 - t) - (a + 1)) + 1) := by
    rw [e64, ← Nat.mul_sub]; congr 1; omega
  rw [e2]
  have hand : (2 * a + 1) &&& (2 * (2^(63 - t) - (a + 1)) + 1) = 1 := by
    apply Nat.eq_of_testBit_eq
    intro i
    rw [Nat.testBit_and]
    cases i with
    | zero => simp
    | succ i =>
      rw [Nat.testBit_succ, Nat.testBit_succ, Nat.testBit_succ, show (2 * a + 1) / 2 = a by omega, show (2 * (2^(63 - t) - (a + 1)) + 1) / 2 = 2^(63 - t) - (a + 1) by omega, Nat.testBit_two_pow_sub_succ (by omega)]
      cases a.testBit i <;> simp
  rw [Nat.mul_comm (2^t), Nat.mul_comm (2^t), ← Nat.shiftLeft_eq, ← Nat.shiftLeft_eq, ← Nat.shiftLeft_and_distrib, hand, Nat.shiftLeft_eq, Nat.one_mul]
theorem bn_low_zeros (x : Int64) (t a : Nat) (h : bn_u x = 2^t * (2 * a + 1)) : t < 64 ∧ fLong_bitCount ((x &&& -x) - 1) = Int32.ofNat t := by
  have hx := bn_u_lt x
  have ht : t < 64 := by
    rcases Nat.lt_or_ge t 64 with q | q
    · exact q
    · have h1 : 2^64 ≤ 2^t := Nat.pow_le_pow_right (by decide) q
      have h2 := Nat.mul_le_mul_left (2^t) (show 1 ≤ 2 * a + 1 by omega)
      omega
  refine ⟨ht, ?_⟩
  rw [← bn_bc_ones t (by omega)]
  congr 1
  apply bn_u_inj
  have hp := Nat.two_pow_pos t
  have hle : 2^t ≤ bn_u x := by rw [h]; have := Nat.mul_le_mul_left (2^t) (show 1 ≤ 2 * a + 1 by omega); omega
  have e1 : bn_u (x &&& -x) = 2^t := by
    rw [bn_u_and, bn_u_neg, Nat.mod_eq_of_lt (by omega), h]
    exact bn_low_bit t a (by omega)
  rw [bn_sub_u (by rw [e1]; show 1 ≤ _; omega), e1, bn_u_ofNat (by omega)]
  rfl

theorem bn_otherFormat (f t : Nat) (x : Int64) (hx : bn_ok f x) (h1 : fFormat_isNone f x = 0) (h2 : fFormat_isInfinite f x = 0) :
    fConversions_otherFormat f t x = if bn_mag f x = 0 then fFormat_signed t (fFormat_isNegative f x) 0 else bn_out t (fFormat_isNegative f x) (bn_M f x) (bn_S f x) := by
  unfold fConversions_otherFormat
  rw [if_pos h1, if_pos h2]
  have mx := bn_signif f x hx
  have sx := bn_scale f x hx
  have mxl := bn_M_lt53 f x
  have sx1 := bn_S_ge f x
  have sx2 := bn_S_le f x
  have hmn := bn_mn_le f
  by_cases q : bn_mag f x = 0
  · rw [if_pos q]
    have hM : bn_M f x = 0 := by
      unfold bn_M bn_ex; rw [q]; simp
    have : fFormat_significand f x = 0 := bn_u_zero.mpr (by omega)
    rw [this, bn_rounded_zero]
  · rw [if_neg q]
    have := bn_M_pos f x q
    rw [bn_rounded t _ _ _ (fun e => by rw [bn_u_zero] at e; omega) (by omega) (Or.inl (by omega)), mx, sx]; rfl
theorem bn_whole_rounded (k : Nat) (neg : Int32) (m : Int64) : fFormat_rounded k neg m 0 = if bn_u m = 0 then fFormat_signed k neg 0 else bn_out k neg (bn_u m) 0 := by
  by_cases q : bn_u m = 0
  · rw [if_pos q]
    have : m = 0 := bn_u_zero.mpr q
    rw [this, bn_rounded_zero]
  · rw [if_neg q]
    have hL : bn_len (bn_u m) ≤ 64 := bn_len_le.mpr (bn_u_lt m)
    have hmn := bn_mn_le k
    have hP := bn_P_le k
    have z0 : (0 : Int32).toInt = 0 := rfl
    rw [bn_rounded k _ _ _ (fun e => q (bn_u_zero.mp e)) (by rw [z0]; omega) (Or.inr (by rw [z0]; unfold bn_ns; omega))]; rfl
end
section
def aw : List Cond := lw_tbl.filter goodWord
theorem aw_in (i : Nat) {w : Cond} (h : lw_tbl[i]? = some w) (hg : goodWord w = true) : w ∈ aw := List.mem_filter.mpr ⟨List.mem_of_getElem? h, hg⟩
theorem aw_good {w : Cond} (h : w ∈ aw) : w ∈ aw ∧ ((w.onTables && w.keeps) = true ∨ ∃ ty, w = .arrayClass ty) := ⟨h, good_of_word (List.mem_filter.mp h).2⟩
theorem aw_tbl {w : Cond} (h : w ∈ aw) : w ∈ lw_tbl := (List.mem_filter.mp h).1
theorem gS {own : String} {idx : Nat} {y : MethodName} {c : ByteArray} {n : Nat} {r : Option FieldType} (h1 : Cond.methodLink own idx y ∈ aw) (h2 : Cond.static y ∈ aw) (h3 : Cond.initialized y.cls ∈ aw) (h4 : Cond.code y c n r ∈ aw) : GoodIn aw (va_wsS own idx y (Cond.code y c n r :: aw)) := by
  intro w hw
  rcases List.mem_append.mp hw with q | q
  · rcases List.mem_cons.mp q with e | q
    · rw [e]; exact aw_good h1
    rcases List.mem_cons.mp q with e | q
    · rw [e]; exact aw_good h2
    rcases List.mem_cons.mp q with e | q
    · rw [e]; exact aw_good h3
    · cases q
  · rcases List.mem_cons.mp q with e | q
    · rw [e]; exact aw_good h4
    · exact aw_good q
theorem gV {own C : String} {idx : Nat} {y : MethodName} {c : ByteArray} {n : Nat} {r : Option FieldType} (h1 : Cond.methodLink own idx y ∈ aw) (h2 : Cond.instanceMethod y ∈ aw) (h3 : Cond.selects C y y ∈ aw) (h5 : Cond.initialized C ∈ aw) (h4 : Cond.code y c n r ∈ aw) : GoodIn aw (wsV own idx C y (Cond.code y c n r :: aw)) := by
  intro w hw
  rcases List.mem_append.mp hw with q | q
  · rcases List.mem_cons.mp q with e | q
    · rw [e]; exact aw_good h1
    rcases List.mem_cons.mp q with e | q
    · rw [e]; exact aw_good h2
    rcases List.mem_cons.mp q with e | q
    · rw [e]; exact aw_good h3
    rcases List.mem_cons.mp q with e | q
    · rw [e]; exact aw_good h5
    · cases q
  · rcases List.mem_cons.mp q with e | q
    · rw [e]; exact aw_good h4
    · exact aw_good q
abbrev cConversions_isTowardsZero : ByteArray := prog_2_method_2_code
def yConversions_isTowardsZero : MethodName := ⟨"BitNumbers$Conversions", "isTowardsZero", "(I)Z"⟩
def wsConversions_isTowardsZero : List Cond := .code yConversions_isTowardsZero cConversions_isTowardsZero 1 (some .boolean) :: aw
abbrev cFormat_isNone : ByteArray := prog_4_method_9_code
def yFormat_isNone : MethodName := ⟨"BitNumbers$Format", "isNone", "(J)Z"⟩
def wsFormat_isNone : List Cond := .code yFormat_isNone cFormat_isNone 3 (some .boolean) :: aw
abbrev cConversions_isSigned : ByteArray := prog_2_method_5_code
def yConversions_isSigned : MethodName := ⟨"BitNumbers$Conversions", "isSigned", "(I)Z"⟩
def wsConversions_isSigned : List Cond := .code yConversions_isSigned cConversions_isSigned 2 (some .boolean) :: aw
abbrev cFormat_isNegative : ByteArray := prog_4_method_5_code
def yFormat_isNegative : MethodName := ⟨"BitNumbers$Format", "isNegative", "(J)Z"⟩
def wsFormat_isNegative : List Cond := .code yFormat_isNegative cFormat_isNegative 3 (some .boolean) :: aw
abbrev cWhole_width : ByteArray := prog_6_method_2_code
def yWhole_width : MethodName := ⟨"BitNumbers$Whole", "width", "(I)I"⟩
def wsWhole_width : List Cond := .code yWhole_width cWhole_width 1 (some .int) :: aw
abbrev cWhole_greatest : ByteArray := prog_6_method_5_code
def yWhole_greatest : MethodName := ⟨"BitNumbers$Whole", "greatest", "(IZ)J"⟩
def wsWhole_greatest : List Cond := .code yWhole_greatest cWhole_greatest 2 (some .long) :: aw
abbrev cConversions_limit : ByteArray := prog_2_method_10_code
def yConversions_limit : MethodName := ⟨"BitNumbers$Conversions", "limit", "(LBitNumbers$Format;JIZ)J"⟩
def wsConversions_limit : List Cond := .code yConversions_limit cConversions_limit 5 (some .long) :: aw
abbrev cFormat_exponent : ByteArray := prog_4_method_10_code
def yFormat_exponent : MethodName := ⟨"BitNumbers$Format", "exponent", "(J)I"⟩
def wsFormat_exponent : List Cond := .code yFormat_exponent cFormat_exponent 3 (some .int) :: aw
abbrev cFormat_significand : ByteArray := prog_4_method_12_code
def yFormat_significand : MethodName := ⟨"BitNumbers$Format", "significand", "(J)J"⟩
def wsFormat_significand : List Cond := .code yFormat_significand cFormat_significand 5 (some .long) :: aw
abbrev cMath_max : ByteArray := prog_14_method_65_code
def yMath_max : MethodName := ⟨"java/lang/Math", "max", "(II)I"⟩
def wsMath_max : List Cond := .code yMath_max cMath_max 2 (some .int) :: aw
abbrev cFormat_scale : ByteArray := prog_4_method_13_code
def yFormat_scale : MethodName := ⟨"BitNumbers$Format", "scale", "(J)I"⟩
def wsFormat_scale : List Cond := .code yFormat_scale cFormat_scale 3 (some .int) :: aw
abbrev cLong_bitCount : ByteArray := prog_13_method_50_code
def yLong_bitCount : MethodName := ⟨"java/lang/Long", "bitCount", "(J)I"⟩
def wsLong_bitCount : List Cond := .code yLong_bitCount cLong_bitCount 2 (some .int) :: aw
abbrev cWhole_length : ByteArray := prog_6_method_7_code
def yWhole_length : MethodName := ⟨"BitNumbers$Whole", "length", "(J)I"⟩
def wsWhole_length : List Cond := .code yWhole_length cWhole_length 5 (some .int) :: aw
abbrev cConversions_wholePart : ByteArray := prog_2_method_12_code
def yConversions_wholePart : MethodName := ⟨"BitNumbers$Conversions", "wholePart", "(JI)J"⟩
def wsConversions_wholePart : List Cond := .code yConversions_wholePart cConversions_wholePart 3 (some .long) :: aw
abbrev cLong_compare : ByteArray := prog_13_method_42_code
def yLong_compare : MethodName := ⟨"java/lang/Long", "compare", "(JJ)I"⟩
def wsLong_compare : List Cond := .code yLong_compare cLong_compare 4 (some .int) :: aw
abbrev cWhole_orderWithoutSign : ByteArray := prog_6_method_6_code
def yWhole_orderWithoutSign : MethodName := ⟨"BitNumbers$Whole", "orderWithoutSign", "(JJ)I"⟩
def wsWhole_orderWithoutSign : List Cond := .code yWhole_orderWithoutSign cWhole_orderWithoutSign 4 (some .int) :: aw
abbrev cConversions_fits : ByteArray := prog_2_method_11_code
def yConversions_fits : MethodName := ⟨"BitNumbers$Conversions", "fits", "(LBitNumbers$Format;JJ)Z"⟩
def wsConversions_fits : List Cond := .code yConversions_fits cConversions_fits 8 (some .boolean) :: aw
abbrev cConversions_trapOf : ByteArray := prog_2_method_3_code
def yConversions_trapOf : MethodName := ⟨"BitNumbers$Conversions", "trapOf", "(ILBitNumbers$Format;IJ)I"⟩
def wsConversions_trapOf : List Cond := .code yConversions_trapOf cConversions_trapOf 5 (some .int) :: aw
abbrev cFormat_of : ByteArray := prog_4_method_4_code
def yFormat_of : MethodName := ⟨"BitNumbers$Format", "of", "(I)LBitNumbers$Format;"⟩
def wsFormat_of : List Cond := .code yFormat_of cFormat_of 1 (some (.object "BitNumbers$Format")) :: aw
abbrev cConversions_towardsZero : ByteArray := prog_2_method_9_code
def yConversions_towardsZero : MethodName := ⟨"BitNumbers$Conversions", "towardsZero", "(ILBitNumbers$Format;IJ)J"⟩
def wsConversions_towardsZero : List Cond := .code yConversions_towardsZero cConversions_towardsZero 9 (some .long) :: aw
abbrev cWhole_withSign : ByteArray := prog_6_method_3_code
def yWhole_withSign : MethodName := ⟨"BitNumbers$Whole", "withSign", "(IJ)J"⟩
def wsWhole_withSign : List Cond := .code yWhole_withSign cWhole_withSign 3 (some .long) :: aw
abbrev cFormat_isInfinite : ByteArray := prog_4_method_8_code
def yFormat_isInfinite : MethodName := ⟨"BitNumbers$Format", "isInfinite", "(J)Z"⟩
def wsFormat_isInfinite : List Cond := .code yFormat_isInfinite cFormat_isInfinite 3 (some .boolean) :: aw
abbrev cFormat_signed : ByteArray := prog_4_method_14_code
def yFormat_signed : MethodName := ⟨"BitNumbers$Format", "signed", "(ZJ)J"⟩
def wsFormat_signed : List Cond := .code yFormat_signed cFormat_signed 4 (some .long) :: aw
abbrev cFormat_nearest : ByteArray := prog_4_method_16_code
def yFormat_nearest : MethodName := ⟨"BitNumbers$Format", "nearest", "(JI)J"⟩
def wsFormat_nearest : List Cond := .code yFormat_nearest cFormat_nearest 10 (some .long) :: aw
abbrev cFormat_rounded : ByteArray := prog_4_method_15_code
def yFormat_rounded : MethodName := ⟨"BitNumbers$Format", "rounded", "(ZJI)J"⟩
def wsFormat_rounded : List Cond := .code yFormat_rounded cFormat_rounded 11 (some .long) :: aw
abbrev cConversions_otherFormat : ByteArray := prog_2_method_8_code
def yConversions_otherFormat : MethodName := ⟨"BitNumbers$Conversions", "otherFormat", "(LBitNumbers$Format;LBitNumbers$Format;J)J"⟩
def wsConversions_otherFormat : List Cond := .code yConversions_otherFormat cConversions_otherFormat 4 (some .long) :: aw
abbrev cConversions_fromWhole : ByteArray := prog_2_method_7_code
def yConversions_fromWhole : MethodName := ⟨"BitNumbers$Conversions", "fromWhole", "(ZILBitNumbers$Format;J)J"⟩
def wsConversions_fromWhole : List Cond := .code yConversions_fromWhole cConversions_fromWhole 8 (some .long) :: aw
abbrev cConversions_lowestWithSign : ByteArray := prog_2_method_6_code
def yConversions_lowestWithSign : MethodName := ⟨"BitNumbers$Conversions", "lowestWithSign", "(IJ)J"⟩
def wsConversions_lowestWithSign : List Cond := .code yConversions_lowestWithSign cConversions_lowestWithSign 3 (some .long) :: aw
abbrev cConversions_result : ByteArray := prog_2_method_4_code
def yConversions_result : MethodName := ⟨"BitNumbers$Conversions", "result", "(IIIJ)J"⟩
def wsConversions_result : List Cond := .code yConversions_result cConversions_result 5 (some .long) :: aw
abbrev cFormat_magnitude : ByteArray := prog_4_method_6_code
def yFormat_magnitude : MethodName := ⟨"BitNumbers$Format", "magnitude", "(J)J"⟩
def wsFormat_magnitude : List Cond := .code yFormat_magnitude cFormat_magnitude 3 (some .long) :: aw
abbrev cFloating_number : ByteArray := prog_3_method_5_code
def yFloating_number : MethodName := ⟨"BitNumbers$Floating", "number", "(LBitNumbers$Format;J)J"⟩
def wsFloating_number : List Cond := .code yFloating_number cFloating_number 5 (some .long) :: aw
abbrev cFloating_test : ByteArray := prog_3_method_2_code
def yFloating_test : MethodName := ⟨"BitNumbers$Floating", "test", "(ILBitNumbers$Format;JJ)Z"⟩
def wsFloating_test : List Cond := .code yFloating_test cFloating_test 7 (some .boolean) :: aw
abbrev cMath_min : ByteArray := prog_14_method_69_code
def yMath_min : MethodName := ⟨"java/lang/Math", "min", "(II)I"⟩
def wsMath_min : List Cond := .code yMath_min cMath_min 2 (some .int) :: aw
abbrev cFloating_wholeNumber : ByteArray := prog_3_method_7_code
def yFloating_wholeNumber : MethodName := ⟨"BitNumbers$Floating", "wholeNumber", "(ILBitNumbers$Format;J)J"⟩
def wsFloating_wholeNumber : List Cond := .code yFloating_wholeNumber cFloating_wholeNumber 13 (some .long) :: aw
abbrev cFormat_isZero : ByteArray := prog_4_method_7_code
def yFormat_isZero : MethodName := ⟨"BitNumbers$Format", "isZero", "(J)Z"⟩
def wsFormat_isZero : List Cond := .code yFormat_isZero cFormat_isZero 3 (some .boolean) :: aw
abbrev cFloating_lift : ByteArray := prog_3_method_14_code
def yFloating_lift : MethodName := ⟨"BitNumbers$Floating", "lift", "(J)I"⟩
def wsFloating_lift : List Cond := .code yFloating_lift cFloating_lift 2 (some .int) :: aw
abbrev cFloating_root : ByteArray := prog_3_method_8_code
def yFloating_root : MethodName := ⟨"BitNumbers$Floating", "root", "(LBitNumbers$Format;J)J"⟩
def wsFloating_root : List Cond := .code yFloating_root cFloating_root 13 (some .long) :: aw
abbrev cFloating_sumWithInfinite : ByteArray := prog_3_method_10_code
def yFloating_sumWithInfinite : MethodName := ⟨"BitNumbers$Floating", "sumWithInfinite", "(LBitNumbers$Format;JJ)J"⟩
def wsFloating_sumWithInfinite : List Cond := .code yFloating_sumWithInfinite cFloating_sumWithInfinite 6 (some .long) :: aw
abbrev cFloating_shiftedWithTrace : ByteArray := prog_3_method_15_code
def yFloating_shiftedWithTrace : MethodName := ⟨"BitNumbers$Floating", "shiftedWithTrace", "(JI)J"⟩
def wsFloating_shiftedWithTrace : List Cond := .code yFloating_shiftedWithTrace cFloating_shiftedWithTrace 5 (some .long) :: aw
abbrev cFloating_sum : ByteArray := prog_3_method_9_code
def yFloating_sum : MethodName := ⟨"BitNumbers$Floating", "sum", "(LBitNumbers$Format;JJ)J"⟩
def wsFloating_sum : List Cond := .code yFloating_sum cFloating_sum 19 (some .long) :: aw
abbrev cFloating_highProduct : ByteArray := prog_3_method_13_code
def yFloating_highProduct : MethodName := ⟨"BitNumbers$Floating", "highProduct", "(JJ)J"⟩
def wsFloating_highProduct : List Cond := .code yFloating_highProduct cFloating_highProduct 16 (some .long) :: aw
abbrev cFloating_product : ByteArray := prog_3_method_11_code
def yFloating_product : MethodName := ⟨"BitNumbers$Floating", "product", "(LBitNumbers$Format;JJ)J"⟩
def wsFloating_product : List Cond := .code yFloating_product cFloating_product 16 (some .long) :: aw
abbrev cFloating_quotient : ByteArray := prog_3_method_12_code
def yFloating_quotient : MethodName := ⟨"BitNumbers$Floating", "quotient", "(LBitNumbers$Format;JJ)J"⟩
def wsFloating_quotient : List Cond := .code yFloating_quotient cFloating_quotient 16 (some .long) :: aw
abbrev cFloating_orderWithZeros : ByteArray := prog_3_method_6_code
def yFloating_orderWithZeros : MethodName := ⟨"BitNumbers$Floating", "orderWithZeros", "(LBitNumbers$Format;J)J"⟩
def wsFloating_orderWithZeros : List Cond := .code yFloating_orderWithZeros cFloating_orderWithZeros 5 (some .long) :: aw
abbrev cFloating_calculated : ByteArray := prog_3_method_4_code
def yFloating_calculated : MethodName := ⟨"BitNumbers$Floating", "calculated", "(ILBitNumbers$Format;JJ)J"⟩
def wsFloating_calculated : List Cond := .code yFloating_calculated cFloating_calculated 6 (some .long) :: aw
abbrev cFloating_result : ByteArray := prog_3_method_3_code
def yFloating_result : MethodName := ⟨"BitNumbers$Floating", "result", "(ILBitNumbers$Format;JJ)J"⟩
def wsFloating_result : List Cond := .code yFloating_result cFloating_result 6 (some .long) :: aw
abbrev cFormat_kind : ByteArray := prog_4_method_11_code
def yFormat_kind : MethodName := ⟨"BitNumbers$Format", "kind", "(J)I"⟩
def wsFormat_kind : List Cond := .code yFormat_kind cFormat_kind 3 (some .int) :: aw
abbrev cOperators_exists : ByteArray := prog_5_method_2_code
def yOperators_exists : MethodName := ⟨"BitNumbers$Operators", "exists", "(I)Z"⟩
def wsOperators_exists : List Cond := .code yOperators_exists cOperators_exists 1 (some .boolean) :: aw
abbrev cOperators_family : ByteArray := prog_5_method_8_code
def yOperators_family : MethodName := ⟨"BitNumbers$Operators", "family", "(I)I"⟩
def wsOperators_family : List Cond := .code yOperators_family cOperators_family 3 (some .int) :: aw
abbrev cOperators_operands : ByteArray := prog_5_method_3_code
def yOperators_operands : MethodName := ⟨"BitNumbers$Operators", "operands", "(I)I"⟩
def wsOperators_operands : List Cond := .code yOperators_operands cOperators_operands 2 (some .int) :: aw
abbrev cOperators_typeIn : ByteArray := prog_5_method_9_code
def yOperators_typeIn : MethodName := ⟨"BitNumbers$Operators", "typeIn", "([II)I"⟩
def wsOperators_typeIn : List Cond := .code yOperators_typeIn cOperators_typeIn 3 (some .int) :: aw
abbrev cOperators_operandType : ByteArray := prog_5_method_4_code
def yOperators_operandType : MethodName := ⟨"BitNumbers$Operators", "operandType", "(I)I"⟩
def wsOperators_operandType : List Cond := .code yOperators_operandType cOperators_operandType 2 (some .int) :: aw
abbrev cOperators_resultType : ByteArray := prog_5_method_5_code
def yOperators_resultType : MethodName := ⟨"BitNumbers$Operators", "resultType", "(I)I"⟩
def wsOperators_resultType : List Cond := .code yOperators_resultType cOperators_resultType 2 (some .int) :: aw
abbrev cWhole_withoutSign : ByteArray := prog_6_method_4_code
def yWhole_withoutSign : MethodName := ⟨"BitNumbers$Whole", "withoutSign", "(IJ)J"⟩
def wsWhole_withoutSign : List Cond := .code yWhole_withoutSign cWhole_withoutSign 3 (some .long) :: aw
abbrev cWhole_trapOf : ByteArray := prog_6_method_9_code
def yWhole_trapOf : MethodName := ⟨"BitNumbers$Whole", "trapOf", "(IIJJ)I"⟩
def wsWhole_trapOf : List Cond := .code yWhole_trapOf cWhole_trapOf 9 (some .int) :: aw
abbrev cOperators_trapOf : ByteArray := prog_5_method_6_code
def yOperators_trapOf : MethodName := ⟨"BitNumbers$Operators", "trapOf", "(IJJ)I"⟩
def wsOperators_trapOf : List Cond := .code yOperators_trapOf cOperators_trapOf 7 (some .int) :: aw
abbrev cWhole_test : ByteArray := prog_6_method_8_code
def yWhole_test : MethodName := ⟨"BitNumbers$Whole", "test", "(IIJJ)Z"⟩
def wsWhole_test : List Cond := .code yWhole_test cWhole_test 8 (some .boolean) :: aw
abbrev cWhole_quotientWithoutSign : ByteArray := prog_6_method_12_code
def yWhole_quotientWithoutSign : MethodName := ⟨"BitNumbers$Whole", "quotientWithoutSign", "(JJ)J"⟩
def wsWhole_quotientWithoutSign : List Cond := .code yWhole_quotientWithoutSign cWhole_quotientWithoutSign 6 (some .long) :: aw
abbrev cWhole_divided : ByteArray := prog_6_method_11_code
def yWhole_divided : MethodName := ⟨"BitNumbers$Whole", "divided", "(IIJJ)J"⟩
def wsWhole_divided : List Cond := .code yWhole_divided cWhole_divided 8 (some .long) :: aw
abbrev cWhole_shifted : ByteArray := prog_6_method_13_code
def yWhole_shifted : MethodName := ⟨"BitNumbers$Whole", "shifted", "(IIJI)J"⟩
def wsWhole_shifted : List Cond := .code yWhole_shifted cWhole_shifted 5 (some .long) :: aw
abbrev cWhole_result : ByteArray := prog_6_method_10_code
def yWhole_result : MethodName := ⟨"BitNumbers$Whole", "result", "(IIJJ)J"⟩
def wsWhole_result : List Cond := .code yWhole_result cWhole_result 6 (some .long) :: aw
abbrev cOperators_result : ByteArray := prog_5_method_7_code
def yOperators_result : MethodName := ⟨"BitNumbers$Operators", "result", "(IJJ)J"⟩
def wsOperators_result : List Cond := .code yOperators_result cOperators_result 8 (some .long) :: aw
abbrev rmConversions_isTowardsZero : Room := { frames := 0, cells := 0, slots := 0, locals := 0 }
abbrev rmFormat_isNone : Room := { frames := 0, cells := 0, slots := 0, locals := 0 }
abbrev rmConversions_isSigned : Room := { frames := 0, cells := 0, slots := 0, locals := 0 }
abbrev rmFormat_isNegative : Room := { frames := 0, cells := 0, slots := 0, locals := 0 }
abbrev rmWhole_width : Room := { frames := 0, cells := 0, slots := 0, locals := 0 }
abbrev rmWhole_greatest : Room := { frames := 1, cells := 0, slots := 0, locals := 20 }
abbrev rmConversions_limit : Room := { frames := 2, cells := 0, slots := 0, locals := 41 }
abbrev rmFormat_exponent : Room := { frames := 0, cells := 0, slots := 0, locals := 0 }
abbrev rmFormat_significand : Room := { frames := 1, cells := 0, slots := 0, locals := 22 }
abbrev rmMath_max : Room := { frames := 0, cells := 0, slots := 0, locals := 0 }
abbrev rmFormat_scale : Room := { frames := 1, cells := 0, slots := 0, locals := 22 }
abbrev rmLong_bitCount : Room := { frames := 0, cells := 0, slots := 0, locals := 0 }
abbrev rmWhole_length : Room := { frames := 1, cells := 0, slots := 0, locals := 21 }
abbrev rmConversions_wholePart : Room := { frames := 0, cells := 0, slots := 0, locals := 0 }
abbrev rmLong_compare : Room := { frames := 0, cells := 0, slots := 0, locals := 0 }
abbrev rmWhole_orderWithoutSign : Room := { frames := 1, cells := 0, slots := 0, locals := 23 }
abbrev rmConversions_fits : Room := { frames := 2, cells := 0, slots := 0, locals := 46 }
abbrev rmConversions_trapOf : Room := { frames := 3, cells := 0, slots := 0, locals := 73 }
abbrev rmFormat_of : Room := { frames := 0, cells := 0, slots := 0, locals := 0 }
abbrev rmConversions_towardsZero : Room := { frames := 3, cells := 0, slots := 0, locals := 73 }
abbrev rmWhole_withSign : Room := { frames := 0, cells := 0, slots := 0, locals := 0 }
abbrev rmFormat_isInfinite : Room := { frames := 0, cells := 0, slots := 0, locals := 0 }
abbrev rmFormat_signed : Room := { frames := 0, cells := 0, slots := 0, locals := 0 }
abbrev rmFormat_nearest : Room := { frames := 0, cells := 0, slots := 0, locals := 0 }
abbrev rmFormat_rounded : Room := { frames := 2, cells := 0, slots := 0, locals := 45 }
abbrev rmConversions_otherFormat : Room := { frames := 3, cells := 0, slots := 0, locals := 75 }
abbrev rmConversions_fromWhole : Room := { frames := 3, cells := 0, slots := 0, locals := 75 }
abbrev rmConversions_lowestWithSign : Room := { frames := 0, cells := 0, slots := 0, locals := 0 }
abbrev rmConversions_result : Room := { frames := 4, cells := 0, slots := 0, locals := 102 }
abbrev rmFormat_magnitude : Room := { frames := 0, cells := 0, slots := 0, locals := 0 }
abbrev rmFloating_number : Room := { frames := 1, cells := 0, slots := 0, locals := 22 }
abbrev rmFloating_test : Room := { frames := 2, cells := 0, slots := 0, locals := 46 }
abbrev rmMath_min : Room := { frames := 0, cells := 0, slots := 0, locals := 0 }
abbrev rmFloating_wholeNumber : Room := { frames := 3, cells := 0, slots := 0, locals := 75 }
abbrev rmFormat_isZero : Room := { frames := 0, cells := 0, slots := 0, locals := 0 }
abbrev rmFloating_lift : Room := { frames := 2, cells := 0, slots := 0, locals := 45 }
abbrev rmFloating_root : Room := { frames := 3, cells := 0, slots := 0, locals := 75 }
abbrev rmFloating_sumWithInfinite : Room := { frames := 1, cells := 0, slots := 0, locals := 22 }
abbrev rmFloating_shiftedWithTrace : Room := { frames := 0, cells := 0, slots := 0, locals := 0 }
abbrev rmFloating_sum : Room := { frames := 3, cells := 0, slots := 0, locals := 75 }
abbrev rmFloating_highProduct : Room := { frames := 0, cells := 0, slots := 0, locals := 0 }
abbrev rmFloating_product : Room := { frames := 3, cells := 0, slots := 0, locals := 75 }
abbrev rmFloating_quotient : Room := { frames := 3, cells := 0, slots := 0, locals := 75 }
abbrev rmFloating_orderWithZeros : Room := { frames := 1, cells := 0, slots := 0, locals := 22 }
abbrev rmFloating_calculated : Room := { frames := 4, cells := 0, slots := 0, locals := 113 }
abbrev rmFloating_result : Room := { frames := 5, cells := 0, slots := 0, locals := 138 }
abbrev rmFormat_kind : Room := { frames := 1, cells := 0, slots := 0, locals := 22 }
abbrev rmOperators_exists : Room := { frames := 0, cells := 0, slots := 0, locals := 0 }
abbrev rmOperators_family : Room := { frames := 0, cells := 0, slots := 0, locals := 0 }
abbrev rmOperators_operands : Room := { frames := 1, cells := 0, slots := 0, locals := 22 }
abbrev rmOperators_typeIn : Room := { frames := 0, cells := 0, slots := 0, locals := 0 }
abbrev rmOperators_operandType : Room := { frames := 1, cells := 0, slots := 0, locals := 22 }
abbrev rmOperators_resultType : Room := { frames := 1, cells := 0, slots := 0, locals := 22 }
abbrev rmWhole_withoutSign : Room := { frames := 0, cells := 0, slots := 0, locals := 0 }
abbrev rmWhole_trapOf : Room := { frames := 2, cells := 0, slots := 0, locals := 41 }
abbrev rmOperators_trapOf : Room := { frames := 4, cells := 0, slots := 0, locals := 97 }
abbrev rmWhole_test : Room := { frames := 2, cells := 0, slots := 0, locals := 46 }
abbrev rmWhole_quotientWithoutSign : Room := { frames := 2, cells := 0, slots := 0, locals := 46 }
abbrev rmWhole_divided : Room := { frames := 3, cells := 0, slots := 0, locals := 71 }
abbrev rmWhole_shifted : Room := { frames := 1, cells := 0, slots := 0, locals := 22 }
abbrev rmWhole_result : Room := { frames := 4, cells := 0, slots := 0, locals := 98 }
abbrev rmOperators_result : Room := { frames := 6, cells := 0, slots := 0, locals := 163 }
def pw_C (p : Program) (s : State) (m : MethodId) (args : Array Value) (meth : Method) (c : Code) (cc : ByteArray) (nL : Nat) (ret : Option FieldType) (own : String) : Prop :=
  p.tables.exec = Jvm.exec ∧ c.code = cc ∧ meth.sig.returnType = ret ∧ c.maxLocals = nL ∧ s.vm.findClass own = some m.cls ∧ (∀ w ∈ aw, w.before args s = true) ∧ meth.locks = false
theorem pw_nz {v : Int32} (h : v = 0 ∨ v = 1) : narrow .boolean (.int v) = .int v := by
  rcases h with rfl | rfl <;> rfl
theorem pw_zi0 {c : Prop} [Decidable c] {a b : Int32} (h1 : a = 0 ∨ a = 1) (h2 : b = 0 ∨ b = 1) : (if c then a else b) = 0 ∨ (if c then a else b) = 1 := by
  split <;> assumption
theorem pw_bT {av : List Value} : FrameBlind (va_Pc av (fun _ => True)) := fun _ _ _ _ q => ⟨q.1, trivial⟩
section PW
variable {p : Program} {l : Launch} {e : Env} {R : Room} {s : State} {m : MethodId} {args : Array Value} {below : List Frame} {meth : Method} {c : Code} {H : Heap} {locs : List Loc} {cells slots : Nat} {Q : State → Prop}
variable {cc : ByteArray} {pc : Nat} {ls : Array Slot} {rest st0 : List Value} {a : Array Value}
theorem pw_call {r : Value} (hr : va_Run p l e R s m args below meth c H locs cells slots 0 0 (F0 m pc ls st0) rest (k2_QcV r a) (fun _ => False))
    (kk : W p l e R s m args below meth c H locs cells slots Q (F0 m (pc + 3) ls (r :: rest))) : W p l e R s m args below meth c H locs cells slots Q (F0 m pc ls st0) := by
  intro T hT X
  obtain ⟨v, st₀, t, T', L, h0, X', hL, e1, -, ⟨hv, hh⟩, st⟩ := hr T hT X
  cases hv
  obtain ⟨t2, a1, b1⟩ := kk T' (by rw [e1, hh, h0]) (Stand.forget X' (fun q h => (hL q h).elim))
  exact ⟨t2, st t2 a1, b1⟩
theorem pw_tableD (hexec : p.tables.exec = Jvm.exec) (hb : c.code = cc) {dflt lo hi : Int} {offs : Array Int} {len : Nat} {x : Int32} {tgt : Nat} (hdg : decode cc pc = .ok (.tableswitch dflt lo hi offs, len)) (h : x.toInt < lo ∨ hi < x.toInt ∨ offs[(x.toInt - lo).toNat]? = some dflt) (ht : (pc : Int) + dflt = (tgt : Int))
    (k : W p l e R s m args below meth c H locs cells slots Q (F0 m tgt ls rest)) : W p l e R s m args below meth c H locs cells slots Q (F0 m pc ls (.int x :: rest)) := by
  by_cases h1 : x.toInt < lo
  · exact lv_tableOut hexec hb hdg (Or.inl h1) ht k
  · by_cases h2 : hi < x.toInt
    · exact lv_tableOut hexec hb hdg (Or.inr h2) ht k
    · exact lv_tableIn hexec hb hdg h1 h2 (h.elim (fun q => absurd q h1) (fun q => q.elim (fun q => absurd q h2) id)) ht k
end PW
def pw_I (i : Int32) (n N : Nat) : Prop := ∃ k : Nat, i = nI k ∧ k ≤ N ∧ k + n = N + 1
def pw_B (i : Int32) (n N : Nat) : Prop := ∃ k : Nat, i = nI k ∧ k < N ∧ k + n = N
theorem pw_I_zero {i : Int32} {N : Nat} : ¬ pw_I i 0 N := fun ⟨k, _, h1, h2⟩ => by omega
theorem pw_B_next {i : Int32} {n N : Nat} (h : pw_B i n N) : pw_I (i + 1) n N := by
  obtain ⟨k, h1, h2, h3⟩ := h
  exact ⟨k + 1, by rw [h1]; exact (nI_succ k).symm, by omega, by omega⟩
theorem pw_I_body {i : Int32} {n N : Nat} (h : pw_I i (n + 1) N) (hi : ¬ nI N ≤ i) : pw_B i n N := by
  obtain ⟨k, h1, h2, h3⟩ := h
  refine ⟨k, h1, ?_, by omega⟩
  rcases Nat.lt_or_ge k N with q | q
  · exact q
  · have e : k = N := by omega
    rw [h1, e] at hi
    exact absurd (Int32.le_refl (nI N)) hi
theorem pw_B_in {i : Int32} {n N : Nat} (h : pw_B i n N) (hN : N < 1000) : vp_in i N := by
  obtain ⟨k, h1, h2, h3⟩ := h
  rw [h1]; exact fun q => q.elim (nI_pos (by omega)) (fun q => by rw [nI_clamp (by omega)] at q; omega)
def pw_D (i : Int32) (n : Nat) : Prop := (n = 7 ∧ i = 1) ∨ (n = 6 ∧ i = 2) ∨ (n = 5 ∧ i = 4) ∨ (n = 4 ∧ i = 8) ∨ (n = 3 ∧ i = 16) ∨ (n = 2 ∧ i = 32) ∨ (n = 1 ∧ i = 64)
def pw_DB (i : Int32) (n : Nat) : Prop := (n = 6 ∧ i = 1) ∨ (n = 5 ∧ i = 2) ∨ (n = 4 ∧ i = 4) ∨ (n = 3 ∧ i = 8) ∨ (n = 2 ∧ i = 16) ∨ (n = 1 ∧ i = 32)
theorem pw_D_init : pw_D 1 7 := Or.inl ⟨rfl, rfl⟩
theorem pw_D_zero {i : Int32} : ¬ pw_D i 0 := by
  unfold pw_D; omega
theorem pw_D_body {i : Int32} {n : Nat} (h : pw_D i (n + 1)) (hi : ¬ 64 ≤ i) : pw_DB i n := by
  unfold pw_D at h; unfold pw_DB
  rcases h with ⟨h1, h2⟩ | ⟨h1, h2⟩ | ⟨h1, h2⟩ | ⟨h1, h2⟩ | ⟨h1, h2⟩ | ⟨h1, h2⟩ | ⟨h1, h2⟩
  · exact Or.inl ⟨by omega, h2⟩
  · exact Or.inr (Or.inl ⟨by omega, h2⟩)
  · exact Or.inr (Or.inr (Or.inl ⟨by omega, h2⟩))
  · exact Or.inr (Or.inr (Or.inr (Or.inl ⟨by omega, h2⟩)))
  · exact Or.inr (Or.inr (Or.inr (Or.inr (Or.inl ⟨by omega, h2⟩))))
  · exact Or.inr (Or.inr (Or.inr (Or.inr (Or.inr ⟨by omega, h2⟩))))
  · rw [h2] at hi; exact absurd (by decide) hi
theorem pw_DB_next {i : Int32} {n : Nat} (h : pw_DB i n) : pw_D (i * 2) n := by
  unfold pw_DB at h; unfold pw_D
  rcases h with ⟨h1, h2⟩ | ⟨h1, h2⟩ | ⟨h1, h2⟩ | ⟨h1, h2⟩ | ⟨h1, h2⟩ | ⟨h1, h2⟩ <;> subst h1 h2
  · exact Or.inr (Or.inl ⟨rfl, by decide⟩)
  · exact Or.inr (Or.inr (Or.inl ⟨rfl, by decide⟩))
  · exact Or.inr (Or.inr (Or.inr (Or.inl ⟨rfl, by decide⟩)))
  · exact Or.inr (Or.inr (Or.inr (Or.inr (Or.inl ⟨rfl, by decide⟩))))
  · exact Or.inr (Or.inr (Or.inr (Or.inr (Or.inr (Or.inl ⟨rfl, by decide⟩)))))
  · exact Or.inr (Or.inr (Or.inr (Or.inr (Or.inr (Or.inr ⟨rfl, by decide⟩)))))
theorem pw_vi {i : Int32} {N : Nat} (h0 : 0 ≤ i.toInt) (h : i.toInt < N) : vp_in i N := by
  rintro (q | q)
  · rw [Int32.lt_iff_toInt_lt] at q
    have : (0 : Int32).toInt = 0 := rfl
    omega
  · have : i.toNatClampNeg = i.toInt.toNat := rfl
    omega
theorem pw_ne {y : Int64} (h : 0 < y) : ¬ y = 0 := fun e => by rw [e] at h; exact absurd h (by decide)
theorem fam_lem : ∀ (n : Nat) (a0 a1 a2 : Int32), (0 ≤ a1.toInt ∧ a1.toInt ≤ 8) → 0 ≤ a2.toInt → 0 ≤ (fOperators_family_4 n a0 a1 a2).toInt ∧ (fOperators_family_4 n a0 a1 a2).toInt ≤ 8 := by
  intro n
  induction n with
  | zero => intro a0 a1 a2 _ _; rw [fOperators_family_4]; decide
  | succ n ih =>
    intro a0 a1 a2 h1 h2
    rw [fOperators_family_4]
    by_cases q : (9 : Int32) ≤ a2
    · rw [if_pos q]; exact h1
    · rw [if_neg q]
      rw [Int32.le_iff_toInt_le] at q
      have z9 : (9 : Int32).toInt = 9 := rfl
      have z1 : (1 : Int32).toInt = 1 := rfl
      have e : (a2 + 1).toInt = a2.toInt + 1 := by rw [bn_i_add] <;> omega
      unfold fOperators_family_23
      split
      · exact ih _ _ _ h1 (by omega)
      · exact ih _ _ _ (by omega) (by omega)
theorem fam_in (a : Int32) : vp_in (fOperators_family a) 9 := by
  have := fam_lem 9 a 0 1 (by decide) (by decide)
  exact pw_vi this.1 (by show _ < (9 : Int); unfold fOperators_family; omega)
theorem tb_in {k : Nat} {i : Int32} (hk : k < 4) (h1 : ¬ i < 0) (h2 : ¬ tb_len32 k ≤ i) : vp_in i (tb_len k) := by
  have hl : tb_len k < 100 := by
    have : ∀ k, k < 4 → tb_len k < 100 := by decide
    exact this k hk
  rw [Int32.lt_iff_toInt_lt] at h1
  rw [Int32.le_iff_toInt_le, tb_len32, bn_i_ofNat (by omega)] at h2
  have : (0 : Int32).toInt = 0 := rfl
  exact pw_vi (by omega) (by omega)
theorem rFormat_of (a : Int32) : fFormat_of a < 2 := by unfold fFormat_of; split <;> decide
def pw_G (A : Nat → Prop) (ad td : Nat → Nat) (U : State) (H : Heap) : Prop :=
  va_En "BitNumbers$Format" "LBitNumbers$Format;" ["SINGLE", "DOUBLE"] [] ad A U H ∧
  (va_Ef 2 "BitNumbers$Format" "places" "I" (fun i => .int (fm_places i)) ad A U H ∧ va_Ef 2 "BitNumbers$Format" "greatestExponent" "I" (fun i => .int (fm_greatestExponent i)) ad A U H ∧ va_Ef 2 "BitNumbers$Format" "leastScale" "I" (fun i => .int (fm_leastScale i)) ad A U H ∧ va_Ef 2 "BitNumbers$Format" "signBit" "J" (fun i => .long (fm_signBit i)) ad A U H ∧ va_Ef 2 "BitNumbers$Format" "leadingBit" "J" (fun i => .long (fm_leadingBit i)) ad A U H ∧ va_Ef 2 "BitNumbers$Format" "infinite" "J" (fun i => .long (fm_infinite i)) ad A U H ∧ va_Ef 2 "BitNumbers$Format" "none" "J" (fun i => .long (fm_none i)) ad A U H) ∧
  (∀ i, i < 4 → va_T .int (td i) (tb_len i) (fun j => .int (tb i j)) A U H) ∧
  (va_Z "BitNumbers$Operators" "STARTS" "[I" (.ref (td 0)) A U H ∧ va_Z "BitNumbers$Operators" "ONE_OPERAND" "[I" (.ref (td 1)) A U H ∧ va_Z "BitNumbers$Operators" "FROM" "[I" (.ref (td 2)) A U H ∧ va_Z "BitNumbers$Operators" "TO" "[I" (.ref (td 3)) A U H)
theorem pw_G.moved {A : Nat → Prop} {ad td : Nat → Nat} {u U : State} {H : Heap} (hvm : u.vm.Alike U.vm) (h : pw_G A ad td u H) : pw_G A ad td U H :=
  ⟨va_En.moved hvm h.1, ⟨va_Ef.moved hvm h.2.1.1, va_Ef.moved hvm h.2.1.2.1, va_Ef.moved hvm h.2.1.2.2.1, va_Ef.moved hvm h.2.1.2.2.2.1, va_Ef.moved hvm h.2.1.2.2.2.2.1, va_Ef.moved hvm h.2.1.2.2.2.2.2.1, va_Ef.moved hvm h.2.1.2.2.2.2.2.2⟩, fun i hi => va_T.moved hvm (h.2.2.1 i hi), ⟨va_Z.moved hvm h.2.2.2.1, va_Z.moved hvm h.2.2.2.2.1, va_Z.moved hvm h.2.2.2.2.2.1, va_Z.moved hvm h.2.2.2.2.2.2⟩⟩
theorem pw_G.kept {A : Nat → Prop} {ad td : Nat → Nat} {U : State} {H H1 : Heap} (h : pw_G A ad td U H) (hq : ∀ a : Nat, a < H.size → ¬ A a → H1[a]? = H[a]?) : pw_G A ad td U H1 :=
  ⟨va_En.kept h.1 hq, ⟨va_Ef.kept h.2.1.1 hq, va_Ef.kept h.2.1.2.1 hq, va_Ef.kept h.2.1.2.2.1 hq, va_Ef.kept h.2.1.2.2.2.1 hq, va_Ef.kept h.2.1.2.2.2.2.1 hq, va_Ef.kept h.2.1.2.2.2.2.2.1 hq, va_Ef.kept h.2.1.2.2.2.2.2.2 hq⟩, fun i hi => va_T.kept (h.2.2.1 i hi) hq, ⟨va_Z.kept h.2.2.2.1 hq, va_Z.kept h.2.2.2.2.1 hq, va_Z.kept h.2.2.2.2.2.1 hq, va_Z.kept h.2.2.2.2.2.2 hq⟩⟩
theorem pw_G.narrow {A B : Nat → Prop} {ad td : Nat → Nat} {U : State} {H : Heap} (h : pw_G A ad td U H) (hAB : ∀ q, B q → A q) : pw_G B ad td U H :=
  ⟨va_En.narrow h.1 hAB, ⟨va_Ef.narrow h.2.1.1 hAB, va_Ef.narrow h.2.1.2.1 hAB, va_Ef.narrow h.2.1.2.2.1 hAB, va_Ef.narrow h.2.1.2.2.2.1 hAB, va_Ef.narrow h.2.1.2.2.2.2.1 hAB, va_Ef.narrow h.2.1.2.2.2.2.2.1 hAB, va_Ef.narrow h.2.1.2.2.2.2.2.2 hAB⟩, fun i hi => va_T.narrow (h.2.2.1 i hi) hAB, ⟨va_Z.narrow h.2.2.2.1 hAB, va_Z.narrow h.2.2.2.2.1 hAB, va_Z.narrow h.2.2.2.2.2.1 hAB, va_Z.narrow h.2.2.2.2.2.2 hAB⟩⟩
theorem pw_G.at {A : Nat → Prop} {ad td : Nat → Nat} {s U : State} (h : pw_G A ad td s s.heap) (hU : U.heap = s.heap) (hW : s.WarmedH U.vm) : pw_G A ad td U U.heap := by
  rw [hU]; exact h.moved hW.alike
theorem pw_bG {av : List Value} {ad td : Nat → Nat} : FrameBlind (va_Pc av (fun U => pw_G (fun _ => False) ad td U U.heap)) := fun _ _ _ _ q => ⟨q.1, q.2⟩
end
section
theorem w_35 : (Cond.initialized "BitNumbers$Whole") ∈ aw := aw_in 35 (by decide +kernel) (by decide +kernel)
theorem w_40 : (Cond.initialized "BitNumbers$Operators") ∈ aw := aw_in 40 (by decide +kernel) (by decide +kernel)
theorem w_42 : (Cond.initialized "BitNumbers$Conversions") ∈ aw := aw_in 42 (by decide +kernel) (by decide +kernel)
theorem w_44 : (Cond.initialized "BitNumbers$Format") ∈ aw := aw_in 44 (by decide +kernel) (by decide +kernel)
theorem w_45 : (Cond.initialized "java/lang/Math") ∈ aw := aw_in 45 (by decide +kernel) (by decide +kernel)
theorem w_46 : (Cond.initialized "java/lang/Long") ∈ aw := aw_in 46 (by decide +kernel) (by decide +kernel)
theorem w_48 : (Cond.initialized "BitNumbers$Floating") ∈ aw := aw_in 48 (by decide +kernel) (by decide +kernel)
theorem w_81 : (Cond.static yWhole_withoutSign) ∈ aw := aw_in 81 (by decide +kernel) (by decide +kernel)
theorem w_82 : (Cond.code yWhole_withoutSign cWhole_withoutSign 3 (some .long)) ∈ aw := aw_in 82 (by decide +kernel) (by decide +kernel)
theorem w_83 : (Cond.constantLong "BitNumbers$Whole" 9 4294967295) ∈ aw := aw_in 83 (by decide +kernel) (by decide +kernel)
theorem w_95 : (Cond.fieldLink "BitNumbers$Operators" 9 "BitNumbers$Operators" "STARTS" "[I") ∈ aw := aw_in 95 (by decide +kernel) (by decide +kernel)
theorem w_100 : (Cond.methodLink "BitNumbers$Operators" 15 yOperators_family) ∈ aw := aw_in 100 (by decide +kernel) (by decide +kernel)
theorem w_101 : (Cond.static yOperators_family) ∈ aw := aw_in 101 (by decide +kernel) (by decide +kernel)
theorem w_102 : (Cond.code yOperators_family cOperators_family 3 (some .int)) ∈ aw := aw_in 102 (by decide +kernel) (by decide +kernel)
theorem w_103 : (Cond.fieldLink "BitNumbers$Operators" 19 "BitNumbers$Operators" "ONE_OPERAND" "[I") ∈ aw := aw_in 103 (by decide +kernel) (by decide +kernel)
theorem w_106 : (Cond.static yOperators_operandType) ∈ aw := aw_in 106 (by decide +kernel) (by decide +kernel)
theorem w_107 : (Cond.code yOperators_operandType cOperators_operandType 2 (some .int)) ∈ aw := aw_in 107 (by decide +kernel) (by decide +kernel)
theorem w_108 : (Cond.fieldLink "BitNumbers$Operators" 22 "BitNumbers$Operators" "FROM" "[I") ∈ aw := aw_in 108 (by decide +kernel) (by decide +kernel)
theorem w_110 : (Cond.methodLink "BitNumbers$Operators" 25 yOperators_typeIn) ∈ aw := aw_in 110 (by decide +kernel) (by decide +kernel)
theorem w_111 : (Cond.static yOperators_typeIn) ∈ aw := aw_in 111 (by decide +kernel) (by decide +kernel)
theorem w_112 : (Cond.code yOperators_typeIn cOperators_typeIn 3 (some .int)) ∈ aw := aw_in 112 (by decide +kernel) (by decide +kernel)
theorem w_114 : (Cond.static yOperators_resultType) ∈ aw := aw_in 114 (by decide +kernel) (by decide +kernel)
theorem w_115 : (Cond.code yOperators_resultType cOperators_resultType 2 (some .int)) ∈ aw := aw_in 115 (by decide +kernel) (by decide +kernel)
theorem w_116 : (Cond.fieldLink "BitNumbers$Operators" 29 "BitNumbers$Operators" "TO" "[I") ∈ aw := aw_in 116 (by decide +kernel) (by decide +kernel)
theorem w_135 : (Cond.static yFormat_of) ∈ aw := aw_in 135 (by decide +kernel) (by decide +kernel)
theorem w_136 : (Cond.code yFormat_of cFormat_of 1 (some (.object "BitNumbers$Format"))) ∈ aw := aw_in 136 (by decide +kernel) (by decide +kernel)
theorem w_137 : (Cond.fieldLink "BitNumbers$Format" 5 "BitNumbers$Format" "SINGLE" "LBitNumbers$Format;") ∈ aw := aw_in 137 (by decide +kernel) (by decide +kernel)
theorem w_139 : (Cond.fieldLink "BitNumbers$Format" 9 "BitNumbers$Format" "DOUBLE" "LBitNumbers$Format;") ∈ aw := aw_in 139 (by decide +kernel) (by decide +kernel)
theorem w_142 : (Cond.instanceMethod yFormat_isNegative) ∈ aw := aw_in 142 (by decide +kernel) (by decide +kernel)
theorem w_143 : (Cond.selects "BitNumbers$Format" yFormat_isNegative yFormat_isNegative) ∈ aw := aw_in 143 (by decide +kernel) (by decide +kernel)
theorem w_144 : (Cond.code yFormat_isNegative cFormat_isNegative 3 (some .boolean)) ∈ aw := aw_in 144 (by decide +kernel) (by decide +kernel)
theorem w_146 : (Cond.instanceMethod yFormat_exponent) ∈ aw := aw_in 146 (by decide +kernel) (by decide +kernel)
theorem w_147 : (Cond.selects "BitNumbers$Format" yFormat_exponent yFormat_exponent) ∈ aw := aw_in 147 (by decide +kernel) (by decide +kernel)
theorem w_148 : (Cond.code yFormat_exponent cFormat_exponent 3 (some .int)) ∈ aw := aw_in 148 (by decide +kernel) (by decide +kernel)
theorem w_153 : (Cond.methodLink "BitNumbers$Format" 58 yFormat_isNone) ∈ aw := aw_in 153 (by decide +kernel) (by decide +kernel)
theorem w_154 : (Cond.instanceMethod yFormat_isNone) ∈ aw := aw_in 154 (by decide +kernel) (by decide +kernel)
theorem w_155 : (Cond.selects "BitNumbers$Format" yFormat_isNone yFormat_isNone) ∈ aw := aw_in 155 (by decide +kernel) (by decide +kernel)
theorem w_156 : (Cond.code yFormat_isNone cFormat_isNone 3 (some .boolean)) ∈ aw := aw_in 156 (by decide +kernel) (by decide +kernel)
theorem w_157 : (Cond.constantLong "BitNumbers$Format" 56 (-1)) ∈ aw := aw_in 157 (by decide +kernel) (by decide +kernel)
theorem w_158 : (Cond.methodLink "BitNumbers$Format" 62 yFormat_isInfinite) ∈ aw := aw_in 158 (by decide +kernel) (by decide +kernel)
theorem w_159 : (Cond.instanceMethod yFormat_isInfinite) ∈ aw := aw_in 159 (by decide +kernel) (by decide +kernel)
theorem w_160 : (Cond.selects "BitNumbers$Format" yFormat_isInfinite yFormat_isInfinite) ∈ aw := aw_in 160 (by decide +kernel) (by decide +kernel)
theorem w_161 : (Cond.code yFormat_isInfinite cFormat_isInfinite 3 (some .boolean)) ∈ aw := aw_in 161 (by decide +kernel) (by decide +kernel)
theorem w_162 : (Cond.methodLink "BitNumbers$Format" 65 yFormat_isZero) ∈ aw := aw_in 162 (by decide +kernel) (by decide +kernel)
theorem w_163 : (Cond.instanceMethod yFormat_isZero) ∈ aw := aw_in 163 (by decide +kernel) (by decide +kernel)
theorem w_164 : (Cond.selects "BitNumbers$Format" yFormat_isZero yFormat_isZero) ∈ aw := aw_in 164 (by decide +kernel) (by decide +kernel)
theorem w_165 : (Cond.code yFormat_isZero cFormat_isZero 3 (some .boolean)) ∈ aw := aw_in 165 (by decide +kernel) (by decide +kernel)
theorem w_166 : (Cond.methodLink "BitNumbers$Format" 68 yFormat_exponent) ∈ aw := aw_in 166 (by decide +kernel) (by decide +kernel)
theorem w_284 : (Cond.methodLink "BitNumbers$Operators" 32 yOperators_operandType) ∈ aw := aw_in 284 (by decide +kernel) (by decide +kernel)
theorem w_285 : (Cond.methodLink "BitNumbers$Operators" 35 yWhole_trapOf) ∈ aw := aw_in 285 (by decide +kernel) (by decide +kernel)
theorem w_286 : (Cond.static yWhole_trapOf) ∈ aw := aw_in 286 (by decide +kernel) (by decide +kernel)
theorem w_287 : (Cond.code yWhole_trapOf cWhole_trapOf 9 (some .int)) ∈ aw := aw_in 287 (by decide +kernel) (by decide +kernel)
theorem w_288 : (Cond.methodLink "BitNumbers$Whole" 38 yWhole_greatest) ∈ aw := aw_in 288 (by decide +kernel) (by decide +kernel)
theorem w_289 : (Cond.static yWhole_greatest) ∈ aw := aw_in 289 (by decide +kernel) (by decide +kernel)
theorem w_290 : (Cond.code yWhole_greatest cWhole_greatest 2 (some .long)) ∈ aw := aw_in 290 (by decide +kernel) (by decide +kernel)
theorem w_291 : (Cond.constantLong "BitNumbers$Whole" 11 (-1)) ∈ aw := aw_in 291 (by decide +kernel) (by decide +kernel)
theorem w_292 : (Cond.methodLink "BitNumbers$Whole" 13 yWhole_width) ∈ aw := aw_in 292 (by decide +kernel) (by decide +kernel)
theorem w_293 : (Cond.static yWhole_width) ∈ aw := aw_in 293 (by decide +kernel) (by decide +kernel)
theorem w_294 : (Cond.code yWhole_width cWhole_width 1 (some .int)) ∈ aw := aw_in 294 (by decide +kernel) (by decide +kernel)
theorem w_295 : (Cond.methodLink "BitNumbers$Whole" 42 yWhole_withoutSign) ∈ aw := aw_in 295 (by decide +kernel) (by decide +kernel)
theorem w_296 : (Cond.methodLink "BitNumbers$Whole" 31 yWhole_withSign) ∈ aw := aw_in 296 (by decide +kernel) (by decide +kernel)
theorem w_297 : (Cond.static yWhole_withSign) ∈ aw := aw_in 297 (by decide +kernel) (by decide +kernel)
theorem w_298 : (Cond.code yWhole_withSign cWhole_withSign 3 (some .long)) ∈ aw := aw_in 298 (by decide +kernel) (by decide +kernel)
theorem w_299 : (Cond.methodLink "BitNumbers$Operators" 41 yConversions_isTowardsZero) ∈ aw := aw_in 299 (by decide +kernel) (by decide +kernel)
theorem w_300 : (Cond.static yConversions_isTowardsZero) ∈ aw := aw_in 300 (by decide +kernel) (by decide +kernel)
theorem w_301 : (Cond.code yConversions_isTowardsZero cConversions_isTowardsZero 1 (some .boolean)) ∈ aw := aw_in 301 (by decide +kernel) (by decide +kernel)
theorem w_302 : (Cond.methodLink "BitNumbers$Operators" 47 yFormat_of) ∈ aw := aw_in 302 (by decide +kernel) (by decide +kernel)
theorem w_303 : (Cond.methodLink "BitNumbers$Operators" 53 yOperators_resultType) ∈ aw := aw_in 303 (by decide +kernel) (by decide +kernel)
theorem w_304 : (Cond.methodLink "BitNumbers$Operators" 56 yConversions_trapOf) ∈ aw := aw_in 304 (by decide +kernel) (by decide +kernel)
theorem w_305 : (Cond.static yConversions_trapOf) ∈ aw := aw_in 305 (by decide +kernel) (by decide +kernel)
theorem w_306 : (Cond.code yConversions_trapOf cConversions_trapOf 5 (some .int)) ∈ aw := aw_in 306 (by decide +kernel) (by decide +kernel)
theorem w_307 : (Cond.methodLink "BitNumbers$Conversions" 13 yFormat_isNone) ∈ aw := aw_in 307 (by decide +kernel) (by decide +kernel)
theorem w_308 : (Cond.methodLink "BitNumbers$Conversions" 19 yConversions_isSigned) ∈ aw := aw_in 308 (by decide +kernel) (by decide +kernel)
theorem w_309 : (Cond.static yConversions_isSigned) ∈ aw := aw_in 309 (by decide +kernel) (by decide +kernel)
theorem w_310 : (Cond.code yConversions_isSigned cConversions_isSigned 2 (some .boolean)) ∈ aw := aw_in 310 (by decide +kernel) (by decide +kernel)
theorem w_311 : (Cond.methodLink "BitNumbers$Conversions" 23 yConversions_limit) ∈ aw := aw_in 311 (by decide +kernel) (by decide +kernel)
theorem w_312 : (Cond.static yConversions_limit) ∈ aw := aw_in 312 (by decide +kernel) (by decide +kernel)
theorem w_313 : (Cond.code yConversions_limit cConversions_limit 5 (some .long)) ∈ aw := aw_in 313 (by decide +kernel) (by decide +kernel)
theorem w_314 : (Cond.methodLink "BitNumbers$Conversions" 70 yFormat_isNegative) ∈ aw := aw_in 314 (by decide +kernel) (by decide +kernel)
theorem w_315 : (Cond.methodLink "BitNumbers$Conversions" 92 yWhole_greatest) ∈ aw := aw_in 315 (by decide +kernel) (by decide +kernel)
theorem w_316 : (Cond.methodLink "BitNumbers$Conversions" 27 yConversions_fits) ∈ aw := aw_in 316 (by decide +kernel) (by decide +kernel)
theorem w_317 : (Cond.static yConversions_fits) ∈ aw := aw_in 317 (by decide +kernel) (by decide +kernel)
theorem w_318 : (Cond.code yConversions_fits cConversions_fits 8 (some .boolean)) ∈ aw := aw_in 318 (by decide +kernel) (by decide +kernel)
theorem w_319 : (Cond.methodLink "BitNumbers$Conversions" 80 yFormat_significand) ∈ aw := aw_in 319 (by decide +kernel) (by decide +kernel)
theorem w_320 : (Cond.instanceMethod yFormat_significand) ∈ aw := aw_in 320 (by decide +kernel) (by decide +kernel)
theorem w_321 : (Cond.selects "BitNumbers$Format" yFormat_significand yFormat_significand) ∈ aw := aw_in 321 (by decide +kernel) (by decide +kernel)
theorem w_322 : (Cond.code yFormat_significand cFormat_significand 5 (some .long)) ∈ aw := aw_in 322 (by decide +kernel) (by decide +kernel)
theorem w_323 : (Cond.methodLink "BitNumbers$Conversions" 84 yFormat_scale) ∈ aw := aw_in 323 (by decide +kernel) (by decide +kernel)
theorem w_324 : (Cond.instanceMethod yFormat_scale) ∈ aw := aw_in 324 (by decide +kernel) (by decide +kernel)
theorem w_325 : (Cond.selects "BitNumbers$Format" yFormat_scale yFormat_scale) ∈ aw := aw_in 325 (by decide +kernel) (by decide +kernel)
theorem w_326 : (Cond.code yFormat_scale cFormat_scale 3 (some .int)) ∈ aw := aw_in 326 (by decide +kernel) (by decide +kernel)
theorem w_327 : (Cond.methodLink "BitNumbers$Format" 72 yMath_max) ∈ aw := aw_in 327 (by decide +kernel) (by decide +kernel)
theorem w_328 : (Cond.static yMath_max) ∈ aw := aw_in 328 (by decide +kernel) (by decide +kernel)
theorem w_329 : (Cond.code yMath_max cMath_max 2 (some .int)) ∈ aw := aw_in 329 (by decide +kernel) (by decide +kernel)
theorem w_330 : (Cond.methodLink "BitNumbers$Conversions" 96 yWhole_length) ∈ aw := aw_in 330 (by decide +kernel) (by decide +kernel)
theorem w_331 : (Cond.static yWhole_length) ∈ aw := aw_in 331 (by decide +kernel) (by decide +kernel)
theorem w_332 : (Cond.code yWhole_length cWhole_length 5 (some .int)) ∈ aw := aw_in 332 (by decide +kernel) (by decide +kernel)
theorem w_333 : (Cond.methodLink "BitNumbers$Whole" 27 yLong_bitCount) ∈ aw := aw_in 333 (by decide +kernel) (by decide +kernel)
theorem w_334 : (Cond.static yLong_bitCount) ∈ aw := aw_in 334 (by decide +kernel) (by decide +kernel)
theorem w_335 : (Cond.code yLong_bitCount cLong_bitCount 2 (some .int)) ∈ aw := aw_in 335 (by decide +kernel) (by decide +kernel)
theorem w_336 : (Cond.constantLong "java/lang/Long" 314 6148914691236517205) ∈ aw := aw_in 336 (by decide +kernel) (by decide +kernel)
theorem w_337 : (Cond.constantLong "java/lang/Long" 316 3689348814741910323) ∈ aw := aw_in 337 (by decide +kernel) (by decide +kernel)
theorem w_338 : (Cond.constantLong "java/lang/Long" 318 1085102592571150095) ∈ aw := aw_in 338 (by decide +kernel) (by decide +kernel)
theorem w_339 : (Cond.methodLink "BitNumbers$Conversions" 88 yConversions_wholePart) ∈ aw := aw_in 339 (by decide +kernel) (by decide +kernel)
theorem w_340 : (Cond.static yConversions_wholePart) ∈ aw := aw_in 340 (by decide +kernel) (by decide +kernel)
theorem w_341 : (Cond.code yConversions_wholePart cConversions_wholePart 3 (some .long)) ∈ aw := aw_in 341 (by decide +kernel) (by decide +kernel)
theorem w_342 : (Cond.methodLink "BitNumbers$Conversions" 99 yWhole_orderWithoutSign) ∈ aw := aw_in 342 (by decide +kernel) (by decide +kernel)
theorem w_343 : (Cond.static yWhole_orderWithoutSign) ∈ aw := aw_in 343 (by decide +kernel) (by decide +kernel)
theorem w_344 : (Cond.code yWhole_orderWithoutSign cWhole_orderWithoutSign 4 (some .int)) ∈ aw := aw_in 344 (by decide +kernel) (by decide +kernel)
theorem w_345 : (Cond.constantLong "BitNumbers$Whole" 19 (-9223372036854775808)) ∈ aw := aw_in 345 (by decide +kernel) (by decide +kernel)
theorem w_346 : (Cond.methodLink "BitNumbers$Whole" 21 yLong_compare) ∈ aw := aw_in 346 (by decide +kernel) (by decide +kernel)
theorem w_347 : (Cond.static yLong_compare) ∈ aw := aw_in 347 (by decide +kernel) (by decide +kernel)
theorem w_348 : (Cond.code yLong_compare cLong_compare 4 (some .int)) ∈ aw := aw_in 348 (by decide +kernel) (by decide +kernel)
theorem w_368 : (Cond.methodLink "BitNumbers$Operators" 59 yWhole_test) ∈ aw := aw_in 368 (by decide +kernel) (by decide +kernel)
theorem w_369 : (Cond.static yWhole_test) ∈ aw := aw_in 369 (by decide +kernel) (by decide +kernel)
theorem w_370 : (Cond.code yWhole_test cWhole_test 8 (some .boolean)) ∈ aw := aw_in 370 (by decide +kernel) (by decide +kernel)
theorem w_371 : (Cond.methodLink "BitNumbers$Whole" 35 yWhole_orderWithoutSign) ∈ aw := aw_in 371 (by decide +kernel) (by decide +kernel)
theorem w_372 : (Cond.methodLink "BitNumbers$Operators" 63 yFloating_test) ∈ aw := aw_in 372 (by decide +kernel) (by decide +kernel)
theorem w_373 : (Cond.static yFloating_test) ∈ aw := aw_in 373 (by decide +kernel) (by decide +kernel)
theorem w_374 : (Cond.code yFloating_test cFloating_test 7 (some .boolean)) ∈ aw := aw_in 374 (by decide +kernel) (by decide +kernel)
theorem w_375 : (Cond.methodLink "BitNumbers$Floating" 7 yFormat_isNone) ∈ aw := aw_in 375 (by decide +kernel) (by decide +kernel)
theorem w_376 : (Cond.methodLink "BitNumbers$Floating" 15 yFloating_number) ∈ aw := aw_in 376 (by decide +kernel) (by decide +kernel)
theorem w_377 : (Cond.static yFloating_number) ∈ aw := aw_in 377 (by decide +kernel) (by decide +kernel)
theorem w_378 : (Cond.code yFloating_number cFloating_number 5 (some .long)) ∈ aw := aw_in 378 (by decide +kernel) (by decide +kernel)
theorem w_379 : (Cond.methodLink "BitNumbers$Floating" 25 yFormat_magnitude) ∈ aw := aw_in 379 (by decide +kernel) (by decide +kernel)
theorem w_380 : (Cond.instanceMethod yFormat_magnitude) ∈ aw := aw_in 380 (by decide +kernel) (by decide +kernel)
theorem w_381 : (Cond.selects "BitNumbers$Format" yFormat_magnitude yFormat_magnitude) ∈ aw := aw_in 381 (by decide +kernel) (by decide +kernel)
theorem w_382 : (Cond.code yFormat_magnitude cFormat_magnitude 3 (some .long)) ∈ aw := aw_in 382 (by decide +kernel) (by decide +kernel)
theorem w_383 : (Cond.methodLink "BitNumbers$Floating" 33 yFormat_isNegative) ∈ aw := aw_in 383 (by decide +kernel) (by decide +kernel)
theorem w_384 : (Cond.methodLink "BitNumbers$Floating" 19 yLong_compare) ∈ aw := aw_in 384 (by decide +kernel) (by decide +kernel)
theorem w_385 : (Cond.methodLink "BitNumbers$Operators" 68 yWhole_result) ∈ aw := aw_in 385 (by decide +kernel) (by decide +kernel)
theorem w_386 : (Cond.static yWhole_result) ∈ aw := aw_in 386 (by decide +kernel) (by decide +kernel)
theorem w_387 : (Cond.code yWhole_result cWhole_result 6 (some .long)) ∈ aw := aw_in 387 (by decide +kernel) (by decide +kernel)
theorem w_388 : (Cond.methodLink "BitNumbers$Whole" 45 yWhole_length) ∈ aw := aw_in 388 (by decide +kernel) (by decide +kernel)
theorem w_389 : (Cond.methodLink "BitNumbers$Whole" 48 yWhole_divided) ∈ aw := aw_in 389 (by decide +kernel) (by decide +kernel)
theorem w_390 : (Cond.static yWhole_divided) ∈ aw := aw_in 390 (by decide +kernel) (by decide +kernel)
theorem w_391 : (Cond.code yWhole_divided cWhole_divided 8 (some .long)) ∈ aw := aw_in 391 (by decide +kernel) (by decide +kernel)
theorem w_392 : (Cond.methodLink "BitNumbers$Whole" 56 yWhole_quotientWithoutSign) ∈ aw := aw_in 392 (by decide +kernel) (by decide +kernel)
theorem w_393 : (Cond.static yWhole_quotientWithoutSign) ∈ aw := aw_in 393 (by decide +kernel) (by decide +kernel)
theorem w_394 : (Cond.code yWhole_quotientWithoutSign cWhole_quotientWithoutSign 6 (some .long)) ∈ aw := aw_in 394 (by decide +kernel) (by decide +kernel)
theorem w_395 : (Cond.constantLong "BitNumbers$Whole" 60 2) ∈ aw := aw_in 395 (by decide +kernel) (by decide +kernel)
theorem w_396 : (Cond.methodLink "BitNumbers$Whole" 52 yWhole_shifted) ∈ aw := aw_in 396 (by decide +kernel) (by decide +kernel)
theorem w_397 : (Cond.static yWhole_shifted) ∈ aw := aw_in 397 (by decide +kernel) (by decide +kernel)
theorem w_398 : (Cond.code yWhole_shifted cWhole_shifted 5 (some .long)) ∈ aw := aw_in 398 (by decide +kernel) (by decide +kernel)
theorem w_399 : (Cond.methodLink "BitNumbers$Operators" 72 yFloating_result) ∈ aw := aw_in 399 (by decide +kernel) (by decide +kernel)
theorem w_400 : (Cond.static yFloating_result) ∈ aw := aw_in 400 (by decide +kernel) (by decide +kernel)
theorem w_401 : (Cond.code yFloating_result cFloating_result 6 (some .long)) ∈ aw := aw_in 401 (by decide +kernel) (by decide +kernel)
theorem w_402 : (Cond.methodLink "BitNumbers$Floating" 36 yFormat_signed) ∈ aw := aw_in 402 (by decide +kernel) (by decide +kernel)
theorem w_403 : (Cond.instanceMethod yFormat_signed) ∈ aw := aw_in 403 (by decide +kernel) (by decide +kernel)
theorem w_404 : (Cond.selects "BitNumbers$Format" yFormat_signed yFormat_signed) ∈ aw := aw_in 404 (by decide +kernel) (by decide +kernel)
theorem w_405 : (Cond.code yFormat_signed cFormat_signed 4 (some .long)) ∈ aw := aw_in 405 (by decide +kernel) (by decide +kernel)
theorem w_406 : (Cond.methodLink "BitNumbers$Floating" 43 yFloating_calculated) ∈ aw := aw_in 406 (by decide +kernel) (by decide +kernel)
theorem w_407 : (Cond.static yFloating_calculated) ∈ aw := aw_in 407 (by decide +kernel) (by decide +kernel)
theorem w_408 : (Cond.code yFloating_calculated cFloating_calculated 6 (some .long)) ∈ aw := aw_in 408 (by decide +kernel) (by decide +kernel)
theorem w_409 : (Cond.methodLink "BitNumbers$Floating" 47 yFloating_wholeNumber) ∈ aw := aw_in 409 (by decide +kernel) (by decide +kernel)
theorem w_410 : (Cond.static yFloating_wholeNumber) ∈ aw := aw_in 410 (by decide +kernel) (by decide +kernel)
theorem w_411 : (Cond.code yFloating_wholeNumber cFloating_wholeNumber 13 (some .long)) ∈ aw := aw_in 411 (by decide +kernel) (by decide +kernel)
theorem w_412 : (Cond.methodLink "BitNumbers$Floating" 69 yFormat_scale) ∈ aw := aw_in 412 (by decide +kernel) (by decide +kernel)
theorem w_413 : (Cond.methodLink "BitNumbers$Floating" 73 yFormat_significand) ∈ aw := aw_in 413 (by decide +kernel) (by decide +kernel)
theorem w_414 : (Cond.methodLink "BitNumbers$Floating" 76 yFormat_nearest) ∈ aw := aw_in 414 (by decide +kernel) (by decide +kernel)
theorem w_415 : (Cond.static yFormat_nearest) ∈ aw := aw_in 415 (by decide +kernel) (by decide +kernel)
theorem w_416 : (Cond.code yFormat_nearest cFormat_nearest 10 (some .long)) ∈ aw := aw_in 416 (by decide +kernel) (by decide +kernel)
theorem w_417 : (Cond.methodLink "BitNumbers$Floating" 80 yFormat_rounded) ∈ aw := aw_in 417 (by decide +kernel) (by decide +kernel)
theorem w_418 : (Cond.instanceMethod yFormat_rounded) ∈ aw := aw_in 418 (by decide +kernel) (by decide +kernel)
theorem w_419 : (Cond.selects "BitNumbers$Format" yFormat_rounded yFormat_rounded) ∈ aw := aw_in 419 (by decide +kernel) (by decide +kernel)
theorem w_420 : (Cond.code yFormat_rounded cFormat_rounded 11 (some .long)) ∈ aw := aw_in 420 (by decide +kernel) (by decide +kernel)
theorem w_421 : (Cond.methodLink "BitNumbers$Format" 78 yFormat_signed) ∈ aw := aw_in 421 (by decide +kernel) (by decide +kernel)
theorem w_422 : (Cond.methodLink "BitNumbers$Format" 82 yWhole_length) ∈ aw := aw_in 422 (by decide +kernel) (by decide +kernel)
theorem w_423 : (Cond.methodLink "BitNumbers$Format" 87 yFormat_nearest) ∈ aw := aw_in 423 (by decide +kernel) (by decide +kernel)
theorem w_424 : (Cond.methodLink "BitNumbers$Floating" 84 yMath_min) ∈ aw := aw_in 424 (by decide +kernel) (by decide +kernel)
theorem w_425 : (Cond.static yMath_min) ∈ aw := aw_in 425 (by decide +kernel) (by decide +kernel)
theorem w_426 : (Cond.code yMath_min cMath_min 2 (some .int)) ∈ aw := aw_in 426 (by decide +kernel) (by decide +kernel)
theorem w_427 : (Cond.methodLink "BitNumbers$Floating" 51 yFloating_root) ∈ aw := aw_in 427 (by decide +kernel) (by decide +kernel)
theorem w_428 : (Cond.static yFloating_root) ∈ aw := aw_in 428 (by decide +kernel) (by decide +kernel)
theorem w_429 : (Cond.code yFloating_root cFloating_root 13 (some .long)) ∈ aw := aw_in 429 (by decide +kernel) (by decide +kernel)
theorem w_430 : (Cond.methodLink "BitNumbers$Floating" 90 yFormat_isZero) ∈ aw := aw_in 430 (by decide +kernel) (by decide +kernel)
theorem w_431 : (Cond.methodLink "BitNumbers$Floating" 93 yFormat_isInfinite) ∈ aw := aw_in 431 (by decide +kernel) (by decide +kernel)
theorem w_432 : (Cond.methodLink "BitNumbers$Floating" 96 yFloating_lift) ∈ aw := aw_in 432 (by decide +kernel) (by decide +kernel)
theorem w_433 : (Cond.static yFloating_lift) ∈ aw := aw_in 433 (by decide +kernel) (by decide +kernel)
theorem w_434 : (Cond.code yFloating_lift cFloating_lift 2 (some .int)) ∈ aw := aw_in 434 (by decide +kernel) (by decide +kernel)
theorem w_435 : (Cond.methodLink "BitNumbers$Floating" 120 yWhole_length) ∈ aw := aw_in 435 (by decide +kernel) (by decide +kernel)
theorem w_436 : (Cond.constantLong "BitNumbers$Floating" 99 3) ∈ aw := aw_in 436 (by decide +kernel) (by decide +kernel)
theorem w_437 : (Cond.methodLink "BitNumbers$Floating" 54 yFloating_sum) ∈ aw := aw_in 437 (by decide +kernel) (by decide +kernel)
theorem w_438 : (Cond.static yFloating_sum) ∈ aw := aw_in 438 (by decide +kernel) (by decide +kernel)
theorem w_439 : (Cond.code yFloating_sum cFloating_sum 19 (some .long)) ∈ aw := aw_in 439 (by decide +kernel) (by decide +kernel)
theorem w_440 : (Cond.methodLink "BitNumbers$Floating" 101 yFloating_sumWithInfinite) ∈ aw := aw_in 440 (by decide +kernel) (by decide +kernel)
theorem w_441 : (Cond.static yFloating_sumWithInfinite) ∈ aw := aw_in 441 (by decide +kernel) (by decide +kernel)
theorem w_442 : (Cond.code yFloating_sumWithInfinite cFloating_sumWithInfinite 6 (some .long)) ∈ aw := aw_in 442 (by decide +kernel) (by decide +kernel)
theorem w_443 : (Cond.methodLink "BitNumbers$Floating" 108 yFloating_shiftedWithTrace) ∈ aw := aw_in 443 (by decide +kernel) (by decide +kernel)
theorem w_444 : (Cond.static yFloating_shiftedWithTrace) ∈ aw := aw_in 444 (by decide +kernel) (by decide +kernel)
theorem w_445 : (Cond.code yFloating_shiftedWithTrace cFloating_shiftedWithTrace 5 (some .long)) ∈ aw := aw_in 445 (by decide +kernel) (by decide +kernel)
theorem w_446 : (Cond.methodLink "BitNumbers$Floating" 58 yFloating_product) ∈ aw := aw_in 446 (by decide +kernel) (by decide +kernel)
theorem w_447 : (Cond.static yFloating_product) ∈ aw := aw_in 447 (by decide +kernel) (by decide +kernel)
theorem w_448 : (Cond.code yFloating_product cFloating_product 16 (some .long)) ∈ aw := aw_in 448 (by decide +kernel) (by decide +kernel)
theorem w_449 : (Cond.methodLink "BitNumbers$Floating" 114 yFloating_highProduct) ∈ aw := aw_in 449 (by decide +kernel) (by decide +kernel)
theorem w_450 : (Cond.static yFloating_highProduct) ∈ aw := aw_in 450 (by decide +kernel) (by decide +kernel)
theorem w_451 : (Cond.code yFloating_highProduct cFloating_highProduct 16 (some .long)) ∈ aw := aw_in 451 (by decide +kernel) (by decide +kernel)
theorem w_452 : (Cond.constantLong "BitNumbers$Floating" 118 4294967295) ∈ aw := aw_in 452 (by decide +kernel) (by decide +kernel)
theorem w_453 : (Cond.methodLink "BitNumbers$Floating" 61 yFloating_quotient) ∈ aw := aw_in 453 (by decide +kernel) (by decide +kernel)
theorem w_454 : (Cond.static yFloating_quotient) ∈ aw := aw_in 454 (by decide +kernel) (by decide +kernel)
theorem w_455 : (Cond.code yFloating_quotient cFloating_quotient 16 (some .long)) ∈ aw := aw_in 455 (by decide +kernel) (by decide +kernel)
theorem w_456 : (Cond.methodLink "BitNumbers$Floating" 64 yFloating_orderWithZeros) ∈ aw := aw_in 456 (by decide +kernel) (by decide +kernel)
theorem w_457 : (Cond.static yFloating_orderWithZeros) ∈ aw := aw_in 457 (by decide +kernel) (by decide +kernel)
theorem w_458 : (Cond.code yFloating_orderWithZeros cFloating_orderWithZeros 5 (some .long)) ∈ aw := aw_in 458 (by decide +kernel) (by decide +kernel)
theorem w_459 : (Cond.constantLong "BitNumbers$Floating" 67 (-1)) ∈ aw := aw_in 459 (by decide +kernel) (by decide +kernel)
theorem w_460 : (Cond.methodLink "BitNumbers$Operators" 75 yConversions_result) ∈ aw := aw_in 460 (by decide +kernel) (by decide +kernel)
theorem w_461 : (Cond.static yConversions_result) ∈ aw := aw_in 461 (by decide +kernel) (by decide +kernel)
theorem w_462 : (Cond.code yConversions_result cConversions_result 5 (some .long)) ∈ aw := aw_in 462 (by decide +kernel) (by decide +kernel)
theorem w_463 : (Cond.methodLink "BitNumbers$Conversions" 31 yConversions_isTowardsZero) ∈ aw := aw_in 463 (by decide +kernel) (by decide +kernel)
theorem w_464 : (Cond.methodLink "BitNumbers$Conversions" 34 yFormat_of) ∈ aw := aw_in 464 (by decide +kernel) (by decide +kernel)
theorem w_465 : (Cond.methodLink "BitNumbers$Conversions" 38 yConversions_towardsZero) ∈ aw := aw_in 465 (by decide +kernel) (by decide +kernel)
theorem w_466 : (Cond.static yConversions_towardsZero) ∈ aw := aw_in 466 (by decide +kernel) (by decide +kernel)
theorem w_467 : (Cond.code yConversions_towardsZero cConversions_towardsZero 9 (some .long)) ∈ aw := aw_in 467 (by decide +kernel) (by decide +kernel)
theorem w_468 : (Cond.methodLink "BitNumbers$Conversions" 42 yWhole_withSign) ∈ aw := aw_in 468 (by decide +kernel) (by decide +kernel)
theorem w_469 : (Cond.methodLink "BitNumbers$Conversions" 48 yConversions_otherFormat) ∈ aw := aw_in 469 (by decide +kernel) (by decide +kernel)
theorem w_470 : (Cond.static yConversions_otherFormat) ∈ aw := aw_in 470 (by decide +kernel) (by decide +kernel)
theorem w_471 : (Cond.code yConversions_otherFormat cConversions_otherFormat 4 (some .long)) ∈ aw := aw_in 471 (by decide +kernel) (by decide +kernel)
theorem w_472 : (Cond.methodLink "BitNumbers$Conversions" 67 yFormat_isInfinite) ∈ aw := aw_in 472 (by decide +kernel) (by decide +kernel)
theorem w_473 : (Cond.methodLink "BitNumbers$Conversions" 76 yFormat_signed) ∈ aw := aw_in 473 (by decide +kernel) (by decide +kernel)
theorem w_474 : (Cond.methodLink "BitNumbers$Conversions" 59 yFormat_rounded) ∈ aw := aw_in 474 (by decide +kernel) (by decide +kernel)
theorem w_475 : (Cond.methodLink "BitNumbers$Conversions" 52 yConversions_fromWhole) ∈ aw := aw_in 475 (by decide +kernel) (by decide +kernel)
theorem w_476 : (Cond.static yConversions_fromWhole) ∈ aw := aw_in 476 (by decide +kernel) (by decide +kernel)
theorem w_477 : (Cond.code yConversions_fromWhole cConversions_fromWhole 8 (some .long)) ∈ aw := aw_in 477 (by decide +kernel) (by decide +kernel)
theorem w_478 : (Cond.methodLink "BitNumbers$Conversions" 56 yConversions_lowestWithSign) ∈ aw := aw_in 478 (by decide +kernel) (by decide +kernel)
theorem w_479 : (Cond.static yConversions_lowestWithSign) ∈ aw := aw_in 479 (by decide +kernel) (by decide +kernel)
theorem w_480 : (Cond.code yConversions_lowestWithSign cConversions_lowestWithSign 3 (some .long)) ∈ aw := aw_in 480 (by decide +kernel) (by decide +kernel)
theorem w_808 : (Cond.fieldLink "BitNumbers$Format" 41 "BitNumbers$Format" "signBit" "J") ∈ aw := aw_in 808 (by decide +kernel) (by decide +kernel)
theorem w_809 : (Cond.fieldLink "BitNumbers$Format" 50 "BitNumbers$Format" "infinite" "J") ∈ aw := aw_in 809 (by decide +kernel) (by decide +kernel)
theorem w_810 : (Cond.fieldLink "BitNumbers$Format" 45 "BitNumbers$Format" "leadingBit" "J") ∈ aw := aw_in 810 (by decide +kernel) (by decide +kernel)
theorem w_811 : (Cond.fieldLink "BitNumbers$Format" 31 "BitNumbers$Format" "places" "I") ∈ aw := aw_in 811 (by decide +kernel) (by decide +kernel)
theorem w_812 : (Cond.fieldLink "BitNumbers$Format" 35 "BitNumbers$Format" "greatestExponent" "I") ∈ aw := aw_in 812 (by decide +kernel) (by decide +kernel)
theorem w_813 : (Cond.fieldLink "BitNumbers$Format" 38 "BitNumbers$Format" "leastScale" "I") ∈ aw := aw_in 813 (by decide +kernel) (by decide +kernel)
theorem w_814 : (Cond.fieldLink "BitNumbers$Floating" 29 "BitNumbers$Format" "signBit" "J") ∈ aw := aw_in 814 (by decide +kernel) (by decide +kernel)
theorem w_815 : (Cond.fieldLink "BitNumbers$Floating" 40 "BitNumbers$Format" "none" "J") ∈ aw := aw_in 815 (by decide +kernel) (by decide +kernel)
theorem w_816 : (Cond.fieldLink "BitNumbers$Floating" 104 "BitNumbers$Format" "places" "I") ∈ aw := aw_in 816 (by decide +kernel) (by decide +kernel)
theorem w_817 : (Cond.fieldLink "BitNumbers$Floating" 111 "BitNumbers$Format" "infinite" "J") ∈ aw := aw_in 817 (by decide +kernel) (by decide +kernel)
theorem w_818 : (Cond.fieldLink "BitNumbers$Conversions" 63 "BitNumbers$Format" "none" "J") ∈ aw := aw_in 818 (by decide +kernel) (by decide +kernel)
theorem w_819 : (Cond.fieldLink "BitNumbers$Conversions" 73 "BitNumbers$Format" "infinite" "J") ∈ aw := aw_in 819 (by decide +kernel) (by decide +kernel)
end
section
theorem dConversions_isTowardsZero_0 : decode cConversions_isTowardsZero 0 = .ok (.iload_n 0, 1) := by decide +kernel
theorem dConversions_isTowardsZero_1 : decode cConversions_isTowardsZero 1 = .ok (.sipush 167, 3) := by decide +kernel
theorem dConversions_isTowardsZero_4 : decode cConversions_isTowardsZero 4 = .ok (.if_icmp .le 10, 3) := by decide +kernel
theorem dConversions_isTowardsZero_7 : decode cConversions_isTowardsZero 7 = .ok (.iload_n 0, 1) := by decide +kernel
theorem dConversions_isTowardsZero_8 : decode cConversions_isTowardsZero 8 = .ok (.sipush 172, 3) := by decide +kernel
theorem dConversions_isTowardsZero_11 : decode cConversions_isTowardsZero 11 = .ok (.if_icmp .lt 24, 3) := by decide +kernel
theorem dConversions_isTowardsZero_14 : decode cConversions_isTowardsZero 14 = .ok (.iload_n 0, 1) := by decide +kernel
theorem dConversions_isTowardsZero_15 : decode cConversions_isTowardsZero 15 = .ok (.sipush 173, 3) := by decide +kernel
theorem dConversions_isTowardsZero_18 : decode cConversions_isTowardsZero 18 = .ok (.if_icmp .le 10, 3) := by decide +kernel
theorem dConversions_isTowardsZero_21 : decode cConversions_isTowardsZero 21 = .ok (.iload_n 0, 1) := by decide +kernel
theorem dConversions_isTowardsZero_22 : decode cConversions_isTowardsZero 22 = .ok (.sipush 178, 3) := by decide +kernel
theorem dConversions_isTowardsZero_25 : decode cConversions_isTowardsZero 25 = .ok (.if_icmp .lt 10, 3) := by decide +kernel
theorem dConversions_isTowardsZero_28 : decode cConversions_isTowardsZero 28 = .ok (.iload_n 0, 1) := by decide +kernel
theorem dConversions_isTowardsZero_29 : decode cConversions_isTowardsZero 29 = .ok (.sipush 200, 3) := by decide +kernel
theorem dConversions_isTowardsZero_32 : decode cConversions_isTowardsZero 32 = .ok (.if_icmp .lt 7, 3) := by decide +kernel
theorem dConversions_isTowardsZero_35 : decode cConversions_isTowardsZero 35 = .ok (.iconst 1, 1) := by decide +kernel
theorem dConversions_isTowardsZero_36 : decode cConversions_isTowardsZero 36 = .ok (.goto 4, 3) := by decide +kernel
theorem dConversions_isTowardsZero_39 : decode cConversions_isTowardsZero 39 = .ok (.iconst 0, 1) := by decide +kernel
theorem dConversions_isTowardsZero_40 : decode cConversions_isTowardsZero 40 = .ok (.ireturn, 1) := by decide +kernel
theorem dFormat_isNone_0 : decode cFormat_isNone 0 = .ok (.lload_n 1, 1) := by decide +kernel
theorem dFormat_isNone_1 : decode cFormat_isNone 1 = .ok (.aload_n 0, 1) := by decide +kernel
theorem dFormat_isNone_2 : decode cFormat_isNone 2 = .ok (.getfield 41, 3) := by decide +kernel
theorem dFormat_isNone_5 : decode cFormat_isNone 5 = .ok (.ldc2_w 56, 3) := by decide +kernel
theorem dFormat_isNone_8 : decode cFormat_isNone 8 = .ok (.lxor, 1) := by decide +kernel
theorem dFormat_isNone_9 : decode cFormat_isNone 9 = .ok (.land, 1) := by decide +kernel
theorem dFormat_isNone_10 : decode cFormat_isNone 10 = .ok (.aload_n 0, 1) := by decide +kernel
theorem dFormat_isNone_11 : decode cFormat_isNone 11 = .ok (.getfield 50, 3) := by decide +kernel
theorem dFormat_isNone_14 : decode cFormat_isNone 14 = .ok (.lcmp, 1) := by decide +kernel
theorem dFormat_isNone_15 : decode cFormat_isNone 15 = .ok (.ifCond .le 7, 3) := by decide +kernel
theorem dFormat_isNone_18 : decode cFormat_isNone 18 = .ok (.iconst 1, 1) := by decide +kernel
theorem dFormat_isNone_19 : decode cFormat_isNone 19 = .ok (.goto 4, 3) := by decide +kernel
theorem dFormat_isNone_22 : decode cFormat_isNone 22 = .ok (.iconst 0, 1) := by decide +kernel
theorem dFormat_isNone_23 : decode cFormat_isNone 23 = .ok (.ireturn, 1) := by decide +kernel
theorem dConversions_isSigned_0 : decode cConversions_isSigned 0 = .ok (.iload_n 0, 1) := by decide +kernel
theorem dConversions_isSigned_1 : decode cConversions_isSigned 1 = .ok (.iconst 2, 1) := by decide +kernel
theorem dConversions_isSigned_2 : decode cConversions_isSigned 2 = .ok (.irem, 1) := by decide +kernel
theorem dConversions_isSigned_3 : decode cConversions_isSigned 3 = .ok (.ifCond .ne 7, 3) := by decide +kernel
theorem dConversions_isSigned_6 : decode cConversions_isSigned 6 = .ok (.iconst 1, 1) := by decide +kernel
theorem dConversions_isSigned_7 : decode cConversions_isSigned 7 = .ok (.goto 4, 3) := by decide +kernel
theorem dConversions_isSigned_10 : decode cConversions_isSigned 10 = .ok (.iconst 0, 1) := by decide +kernel
theorem dConversions_isSigned_11 : decode cConversions_isSigned 11 = .ok (.istore_n 1, 1) := by decide +kernel
theorem dConversions_isSigned_12 : decode cConversions_isSigned 12 = .ok (.iload_n 0, 1) := by decide +kernel
theorem dConversions_isSigned_13 : decode cConversions_isSigned 13 = .ok (.sipush 182, 3) := by decide +kernel
theorem dConversions_isSigned_16 : decode cConversions_isSigned 16 = .ok (.if_icmp .le 22, 3) := by decide +kernel
theorem dConversions_isSigned_19 : decode cConversions_isSigned 19 = .ok (.iload_n 0, 1) := by decide +kernel
theorem dConversions_isSigned_20 : decode cConversions_isSigned 20 = .ok (.sipush 187, 3) := by decide +kernel
theorem dConversions_isSigned_23 : decode cConversions_isSigned 23 = .ok (.if_icmp .ge 15, 3) := by decide +kernel
theorem dConversions_isSigned_26 : decode cConversions_isSigned 26 = .ok (.iload_n 1, 1) := by decide +kernel
theorem dConversions_isSigned_27 : decode cConversions_isSigned 27 = .ok (.ifCond .ne 7, 3) := by decide +kernel
theorem dConversions_isSigned_30 : decode cConversions_isSigned 30 = .ok (.iconst 1, 1) := by decide +kernel
theorem dConversions_isSigned_31 : decode cConversions_isSigned 31 = .ok (.goto 8, 3) := by decide +kernel
theorem dConversions_isSigned_34 : decode cConversions_isSigned 34 = .ok (.iconst 0, 1) := by decide +kernel
theorem dConversions_isSigned_35 : decode cConversions_isSigned 35 = .ok (.goto 4, 3) := by decide +kernel
theorem dConversions_isSigned_38 : decode cConversions_isSigned 38 = .ok (.iload_n 1, 1) := by decide +kernel
theorem dConversions_isSigned_39 : decode cConversions_isSigned 39 = .ok (.ireturn, 1) := by decide +kernel
theorem dFormat_isNegative_0 : decode cFormat_isNegative 0 = .ok (.lload_n 1, 1) := by decide +kernel
theorem dFormat_isNegative_1 : decode cFormat_isNegative 1 = .ok (.aload_n 0, 1) := by decide +kernel
theorem dFormat_isNegative_2 : decode cFormat_isNegative 2 = .ok (.getfield 41, 3) := by decide +kernel
theorem dFormat_isNegative_5 : decode cFormat_isNegative 5 = .ok (.land, 1) := by decide +kernel
theorem dFormat_isNegative_6 : decode cFormat_isNegative 6 = .ok (.lconst 0, 1) := by decide +kernel
theorem dFormat_isNegative_7 : decode cFormat_isNegative 7 = .ok (.lcmp, 1) := by decide +kernel
theorem dFormat_isNegative_8 : decode cFormat_isNegative 8 = .ok (.ifCond .eq 7, 3) := by decide +kernel
theorem dFormat_isNegative_11 : decode cFormat_isNegative 11 = .ok (.iconst 1, 1) := by decide +kernel
theorem dFormat_isNegative_12 : decode cFormat_isNegative 12 = .ok (.goto 4, 3) := by decide +kernel
theorem dFormat_isNegative_15 : decode cFormat_isNegative 15 = .ok (.iconst 0, 1) := by decide +kernel
theorem dFormat_isNegative_16 : decode cFormat_isNegative 16 = .ok (.ireturn, 1) := by decide +kernel
theorem dWhole_width_0 : decode cWhole_width 0 = .ok (.iload_n 0, 1) := by decide +kernel
theorem dWhole_width_1 : decode cWhole_width 1 = .ok (.ifCond .ne 8, 3) := by decide +kernel
theorem dWhole_width_4 : decode cWhole_width 4 = .ok (.bipush 32, 2) := by decide +kernel
theorem dWhole_width_6 : decode cWhole_width 6 = .ok (.goto 5, 3) := by decide +kernel
theorem dWhole_width_9 : decode cWhole_width 9 = .ok (.bipush 64, 2) := by decide +kernel
theorem dWhole_width_11 : decode cWhole_width 11 = .ok (.ireturn, 1) := by decide +kernel
theorem dWhole_greatest_0 : decode cWhole_greatest 0 = .ok (.ldc2_w 11, 3) := by decide +kernel
theorem dWhole_greatest_3 : decode cWhole_greatest 3 = .ok (.bipush 64, 2) := by decide +kernel
theorem dWhole_greatest_5 : decode cWhole_greatest 5 = .ok (.iload_n 0, 1) := by decide +kernel
theorem dWhole_greatest_6 : decode cWhole_greatest 6 = .ok (.invokestatic 13, 3) := by decide +kernel
theorem dWhole_greatest_9 : decode cWhole_greatest 9 = .ok (.isub, 1) := by decide +kernel
theorem dWhole_greatest_10 : decode cWhole_greatest 10 = .ok (.iload_n 1, 1) := by decide +kernel
theorem dWhole_greatest_11 : decode cWhole_greatest 11 = .ok (.ifCond .eq 7, 3) := by decide +kernel
theorem dWhole_greatest_14 : decode cWhole_greatest 14 = .ok (.iconst 1, 1) := by decide +kernel
theorem dWhole_greatest_15 : decode cWhole_greatest 15 = .ok (.goto 4, 3) := by decide +kernel
theorem dWhole_greatest_18 : decode cWhole_greatest 18 = .ok (.iconst 0, 1) := by decide +kernel
theorem dWhole_greatest_19 : decode cWhole_greatest 19 = .ok (.iadd, 1) := by decide +kernel
theorem dWhole_greatest_20 : decode cWhole_greatest 20 = .ok (.lushr, 1) := by decide +kernel
theorem dWhole_greatest_21 : decode cWhole_greatest 21 = .ok (.lreturn, 1) := by decide +kernel
theorem dConversions_limit_0 : decode cConversions_limit 0 = .ok (.aload_n 0, 1) := by decide +kernel
theorem dConversions_limit_1 : decode cConversions_limit 1 = .ok (.lload_n 1, 1) := by decide +kernel
theorem dConversions_limit_2 : decode cConversions_limit 2 = .ok (.invokevirtual 70, 3) := by decide +kernel
theorem dConversions_limit_5 : decode cConversions_limit 5 = .ok (.ifCond .ne 10, 3) := by decide +kernel
theorem dConversions_limit_8 : decode cConversions_limit 8 = .ok (.iload_n 3, 1) := by decide +kernel
theorem dConversions_limit_9 : decode cConversions_limit 9 = .ok (.iload 4, 2) := by decide +kernel
theorem dConversions_limit_11 : decode cConversions_limit 11 = .ok (.invokestatic 92, 3) := by decide +kernel
theorem dConversions_limit_14 : decode cConversions_limit 14 = .ok (.lreturn, 1) := by decide +kernel
theorem dConversions_limit_15 : decode cConversions_limit 15 = .ok (.iload 4, 2) := by decide +kernel
theorem dConversions_limit_17 : decode cConversions_limit 17 = .ok (.ifCond .eq 13, 3) := by decide +kernel
theorem dConversions_limit_20 : decode cConversions_limit 20 = .ok (.iload_n 3, 1) := by decide +kernel
theorem dConversions_limit_21 : decode cConversions_limit 21 = .ok (.iconst 1, 1) := by decide +kernel
theorem dConversions_limit_22 : decode cConversions_limit 22 = .ok (.invokestatic 92, 3) := by decide +kernel
theorem dConversions_limit_25 : decode cConversions_limit 25 = .ok (.lconst 1, 1) := by decide +kernel
theorem dConversions_limit_26 : decode cConversions_limit 26 = .ok (.ladd, 1) := by decide +kernel
theorem dConversions_limit_27 : decode cConversions_limit 27 = .ok (.goto 4, 3) := by decide +kernel
theorem dConversions_limit_30 : decode cConversions_limit 30 = .ok (.lconst 0, 1) := by decide +kernel
theorem dConversions_limit_31 : decode cConversions_limit 31 = .ok (.lreturn, 1) := by decide +kernel
theorem dFormat_exponent_0 : decode cFormat_exponent 0 = .ok (.lload_n 1, 1) := by decide +kernel
theorem dFormat_exponent_1 : decode cFormat_exponent 1 = .ok (.aload_n 0, 1) := by decide +kernel
theorem dFormat_exponent_2 : decode cFormat_exponent 2 = .ok (.getfield 31, 3) := by decide +kernel
theorem dFormat_exponent_5 : decode cFormat_exponent 5 = .ok (.iconst 1, 1) := by decide +kernel
theorem dFormat_exponent_6 : decode cFormat_exponent 6 = .ok (.isub, 1) := by decide +kernel
theorem dFormat_exponent_7 : decode cFormat_exponent 7 = .ok (.lushr, 1) := by decide +kernel
theorem dFormat_exponent_8 : decode cFormat_exponent 8 = .ok (.l2i, 1) := by decide +kernel
theorem dFormat_exponent_9 : decode cFormat_exponent 9 = .ok (.aload_n 0, 1) := by decide +kernel
theorem dFormat_exponent_10 : decode cFormat_exponent 10 = .ok (.getfield 35, 3) := by decide +kernel
theorem dFormat_exponent_13 : decode cFormat_exponent 13 = .ok (.iand, 1) := by decide +kernel
theorem dFormat_exponent_14 : decode cFormat_exponent 14 = .ok (.ireturn, 1) := by decide +kernel
theorem dFormat_significand_0 : decode cFormat_significand 0 = .ok (.lload_n 1, 1) := by decide +kernel
theorem dFormat_significand_1 : decode cFormat_significand 1 = .ok (.aload_n 0, 1) := by decide +kernel
theorem dFormat_significand_2 : decode cFormat_significand 2 = .ok (.getfield 45, 3) := by decide +kernel
theorem dFormat_significand_5 : decode cFormat_significand 5 = .ok (.lconst 1, 1) := by decide +kernel
theorem dFormat_significand_6 : decode cFormat_significand 6 = .ok (.lsub, 1) := by decide +kernel
theorem dFormat_significand_7 : decode cFormat_significand 7 = .ok (.land, 1) := by decide +kernel
theorem dFormat_significand_8 : decode cFormat_significand 8 = .ok (.lstore_n 3, 1) := by decide +kernel
theorem dFormat_significand_9 : decode cFormat_significand 9 = .ok (.aload_n 0, 1) := by decide +kernel
theorem dFormat_significand_10 : decode cFormat_significand 10 = .ok (.lload_n 1, 1) := by decide +kernel
theorem dFormat_significand_11 : decode cFormat_significand 11 = .ok (.invokevirtual 68, 3) := by decide +kernel
theorem dFormat_significand_14 : decode cFormat_significand 14 = .ok (.ifCond .ne 7, 3) := by decide +kernel
theorem dFormat_significand_17 : decode cFormat_significand 17 = .ok (.lload_n 3, 1) := by decide +kernel
theorem dFormat_significand_18 : decode cFormat_significand 18 = .ok (.goto 9, 3) := by decide +kernel
theorem dFormat_significand_21 : decode cFormat_significand 21 = .ok (.aload_n 0, 1) := by decide +kernel
theorem dFormat_significand_22 : decode cFormat_significand 22 = .ok (.getfield 45, 3) := by decide +kernel
theorem dFormat_significand_25 : decode cFormat_significand 25 = .ok (.lload_n 3, 1) := by decide +kernel
theorem dFormat_significand_26 : decode cFormat_significand 26 = .ok (.lor, 1) := by decide +kernel
theorem dFormat_significand_27 : decode cFormat_significand 27 = .ok (.lreturn, 1) := by decide +kernel
theorem dMath_max_0 : decode cMath_max 0 = .ok (.iload_n 0, 1) := by decide +kernel
theorem dMath_max_1 : decode cMath_max 1 = .ok (.iload_n 1, 1) := by decide +kernel
theorem dMath_max_2 : decode cMath_max 2 = .ok (.if_icmp .lt 7, 3) := by decide +kernel
theorem dMath_max_5 : decode cMath_max 5 = .ok (.iload_n 0, 1) := by decide +kernel
theorem dMath_max_6 : decode cMath_max 6 = .ok (.goto 4, 3) := by decide +kernel
theorem dMath_max_9 : decode cMath_max 9 = .ok (.iload_n 1, 1) := by decide +kernel
theorem dMath_max_10 : decode cMath_max 10 = .ok (.ireturn, 1) := by decide +kernel
theorem dFormat_scale_0 : decode cFormat_scale 0 = .ok (.aload_n 0, 1) := by decide +kernel
theorem dFormat_scale_1 : decode cFormat_scale 1 = .ok (.getfield 38, 3) := by decide +kernel
theorem dFormat_scale_4 : decode cFormat_scale 4 = .ok (.aload_n 0, 1) := by decide +kernel
theorem dFormat_scale_5 : decode cFormat_scale 5 = .ok (.lload_n 1, 1) := by decide +kernel
theorem dFormat_scale_6 : decode cFormat_scale 6 = .ok (.invokevirtual 68, 3) := by decide +kernel
theorem dFormat_scale_9 : decode cFormat_scale 9 = .ok (.iconst 1, 1) := by decide +kernel
theorem dFormat_scale_10 : decode cFormat_scale 10 = .ok (.invokestatic 72, 3) := by decide +kernel
theorem dFormat_scale_13 : decode cFormat_scale 13 = .ok (.iadd, 1) := by decide +kernel
theorem dFormat_scale_14 : decode cFormat_scale 14 = .ok (.iconst 1, 1) := by decide +kernel
theorem dFormat_scale_15 : decode cFormat_scale 15 = .ok (.isub, 1) := by decide +kernel
theorem dFormat_scale_16 : decode cFormat_scale 16 = .ok (.ireturn, 1) := by decide +kernel
theorem dLong_bitCount_0 : decode cLong_bitCount 0 = .ok (.lload_n 0, 1) := by decide +kernel
theorem dLong_bitCount_1 : decode cLong_bitCount 1 = .ok (.lload_n 0, 1) := by decide +kernel
theorem dLong_bitCount_2 : decode cLong_bitCount 2 = .ok (.iconst 1, 1) := by decide +kernel
theorem dLong_bitCount_3 : decode cLong_bitCount 3 = .ok (.lushr, 1) := by decide +kernel
theorem dLong_bitCount_4 : decode cLong_bitCount 4 = .ok (.ldc2_w 314, 3) := by decide +kernel
theorem dLong_bitCount_7 : decode cLong_bitCount 7 = .ok (.land, 1) := by decide +kernel
theorem dLong_bitCount_8 : decode cLong_bitCount 8 = .ok (.lsub, 1) := by decide +kernel
theorem dLong_bitCount_9 : decode cLong_bitCount 9 = .ok (.lstore_n 0, 1) := by decide +kernel
theorem dLong_bitCount_10 : decode cLong_bitCount 10 = .ok (.lload_n 0, 1) := by decide +kernel
theorem dLong_bitCount_11 : decode cLong_bitCount 11 = .ok (.ldc2_w 316, 3) := by decide +kernel
theorem dLong_bitCount_14 : decode cLong_bitCount 14 = .ok (.land, 1) := by decide +kernel
theorem dLong_bitCount_15 : decode cLong_bitCount 15 = .ok (.lload_n 0, 1) := by decide +kernel
theorem dLong_bitCount_16 : decode cLong_bitCount 16 = .ok (.iconst 2, 1) := by decide +kernel
theorem dLong_bitCount_17 : decode cLong_bitCount 17 = .ok (.lushr, 1) := by decide +kernel
theorem dLong_bitCount_18 : decode cLong_bitCount 18 = .ok (.ldc2_w 316, 3) := by decide +kernel
theorem dLong_bitCount_21 : decode cLong_bitCount 21 = .ok (.land, 1) := by decide +kernel
theorem dLong_bitCount_22 : decode cLong_bitCount 22 = .ok (.ladd, 1) := by decide +kernel
theorem dLong_bitCount_23 : decode cLong_bitCount 23 = .ok (.lstore_n 0, 1) := by decide +kernel
theorem dLong_bitCount_24 : decode cLong_bitCount 24 = .ok (.lload_n 0, 1) := by decide +kernel
theorem dLong_bitCount_25 : decode cLong_bitCount 25 = .ok (.lload_n 0, 1) := by decide +kernel
theorem dLong_bitCount_26 : decode cLong_bitCount 26 = .ok (.iconst 4, 1) := by decide +kernel
theorem dLong_bitCount_27 : decode cLong_bitCount 27 = .ok (.lushr, 1) := by decide +kernel
theorem dLong_bitCount_28 : decode cLong_bitCount 28 = .ok (.ladd, 1) := by decide +kernel
theorem dLong_bitCount_29 : decode cLong_bitCount 29 = .ok (.ldc2_w 318, 3) := by decide +kernel
theorem dLong_bitCount_32 : decode cLong_bitCount 32 = .ok (.land, 1) := by decide +kernel
theorem dLong_bitCount_33 : decode cLong_bitCount 33 = .ok (.lstore_n 0, 1) := by decide +kernel
theorem dLong_bitCount_34 : decode cLong_bitCount 34 = .ok (.lload_n 0, 1) := by decide +kernel
theorem dLong_bitCount_35 : decode cLong_bitCount 35 = .ok (.lload_n 0, 1) := by decide +kernel
theorem dLong_bitCount_36 : decode cLong_bitCount 36 = .ok (.bipush 8, 2) := by decide +kernel
theorem dLong_bitCount_38 : decode cLong_bitCount 38 = .ok (.lushr, 1) := by decide +kernel
theorem dLong_bitCount_39 : decode cLong_bitCount 39 = .ok (.ladd, 1) := by decide +kernel
theorem dLong_bitCount_40 : decode cLong_bitCount 40 = .ok (.lstore_n 0, 1) := by decide +kernel
theorem dLong_bitCount_41 : decode cLong_bitCount 41 = .ok (.lload_n 0, 1) := by decide +kernel
theorem dLong_bitCount_42 : decode cLong_bitCount 42 = .ok (.lload_n 0, 1) := by decide +kernel
theorem dLong_bitCount_43 : decode cLong_bitCount 43 = .ok (.bipush 16, 2) := by decide +kernel
theorem dLong_bitCount_45 : decode cLong_bitCount 45 = .ok (.lushr, 1) := by decide +kernel
theorem dLong_bitCount_46 : decode cLong_bitCount 46 = .ok (.ladd, 1) := by decide +kernel
theorem dLong_bitCount_47 : decode cLong_bitCount 47 = .ok (.lstore_n 0, 1) := by decide +kernel
theorem dLong_bitCount_48 : decode cLong_bitCount 48 = .ok (.lload_n 0, 1) := by decide +kernel
theorem dLong_bitCount_49 : decode cLong_bitCount 49 = .ok (.lload_n 0, 1) := by decide +kernel
theorem dLong_bitCount_50 : decode cLong_bitCount 50 = .ok (.bipush 32, 2) := by decide +kernel
theorem dLong_bitCount_52 : decode cLong_bitCount 52 = .ok (.lushr, 1) := by decide +kernel
theorem dLong_bitCount_53 : decode cLong_bitCount 53 = .ok (.ladd, 1) := by decide +kernel
theorem dLong_bitCount_54 : decode cLong_bitCount 54 = .ok (.lstore_n 0, 1) := by decide +kernel
theorem dLong_bitCount_55 : decode cLong_bitCount 55 = .ok (.lload_n 0, 1) := by decide +kernel
theorem dLong_bitCount_56 : decode cLong_bitCount 56 = .ok (.l2i, 1) := by decide +kernel
theorem dLong_bitCount_57 : decode cLong_bitCount 57 = .ok (.bipush 127, 2) := by decide +kernel
theorem dLong_bitCount_59 : decode cLong_bitCount 59 = .ok (.iand, 1) := by decide +kernel
theorem dLong_bitCount_60 : decode cLong_bitCount 60 = .ok (.ireturn, 1) := by decide +kernel
theorem dWhole_length_0 : decode cWhole_length 0 = .ok (.lload_n 0, 1) := by decide +kernel
theorem dWhole_length_1 : decode cWhole_length 1 = .ok (.lstore_n 2, 1) := by decide +kernel
theorem dWhole_length_2 : decode cWhole_length 2 = .ok (.iconst 1, 1) := by decide +kernel
theorem dWhole_length_3 : decode cWhole_length 3 = .ok (.istore 4, 2) := by decide +kernel
theorem dWhole_length_5 : decode cWhole_length 5 = .ok (.iload 4, 2) := by decide +kernel
theorem dWhole_length_7 : decode cWhole_length 7 = .ok (.bipush 64, 2) := by decide +kernel
theorem dWhole_length_9 : decode cWhole_length 9 = .ok (.if_icmp .ge 19, 3) := by decide +kernel
theorem dWhole_length_12 : decode cWhole_length 12 = .ok (.lload_n 2, 1) := by decide +kernel
theorem dWhole_length_13 : decode cWhole_length 13 = .ok (.lload_n 2, 1) := by decide +kernel
theorem dWhole_length_14 : decode cWhole_length 14 = .ok (.iload 4, 2) := by decide +kernel
theorem dWhole_length_16 : decode cWhole_length 16 = .ok (.lushr, 1) := by decide +kernel
theorem dWhole_length_17 : decode cWhole_length 17 = .ok (.lor, 1) := by decide +kernel
theorem dWhole_length_18 : decode cWhole_length 18 = .ok (.lstore_n 2, 1) := by decide +kernel
theorem dWhole_length_19 : decode cWhole_length 19 = .ok (.iload 4, 2) := by decide +kernel
theorem dWhole_length_21 : decode cWhole_length 21 = .ok (.iconst 2, 1) := by decide +kernel
theorem dWhole_length_22 : decode cWhole_length 22 = .ok (.imul, 1) := by decide +kernel
theorem dWhole_length_23 : decode cWhole_length 23 = .ok (.istore 4, 2) := by decide +kernel
theorem dWhole_length_25 : decode cWhole_length 25 = .ok (.goto (-20), 3) := by decide +kernel
theorem dWhole_length_28 : decode cWhole_length 28 = .ok (.lload_n 2, 1) := by decide +kernel
theorem dWhole_length_29 : decode cWhole_length 29 = .ok (.invokestatic 27, 3) := by decide +kernel
theorem dWhole_length_32 : decode cWhole_length 32 = .ok (.ireturn, 1) := by decide +kernel
theorem dConversions_wholePart_0 : decode cConversions_wholePart 0 = .ok (.iload_n 2, 1) := by decide +kernel
theorem dConversions_wholePart_1 : decode cConversions_wholePart 1 = .ok (.ifCond .lt 7, 3) := by decide +kernel
theorem dConversions_wholePart_4 : decode cConversions_wholePart 4 = .ok (.lload_n 0, 1) := by decide +kernel
theorem dConversions_wholePart_5 : decode cConversions_wholePart 5 = .ok (.iload_n 2, 1) := by decide +kernel
theorem dConversions_wholePart_6 : decode cConversions_wholePart 6 = .ok (.lshl, 1) := by decide +kernel
theorem dConversions_wholePart_7 : decode cConversions_wholePart 7 = .ok (.lreturn, 1) := by decide +kernel
theorem dConversions_wholePart_8 : decode cConversions_wholePart 8 = .ok (.iload_n 2, 1) := by decide +kernel
theorem dConversions_wholePart_9 : decode cConversions_wholePart 9 = .ok (.bipush (-63), 2) := by decide +kernel
theorem dConversions_wholePart_11 : decode cConversions_wholePart 11 = .ok (.if_icmp .ge 7, 3) := by decide +kernel
theorem dConversions_wholePart_14 : decode cConversions_wholePart 14 = .ok (.lconst 0, 1) := by decide +kernel
theorem dConversions_wholePart_15 : decode cConversions_wholePart 15 = .ok (.goto 7, 3) := by decide +kernel
theorem dConversions_wholePart_18 : decode cConversions_wholePart 18 = .ok (.lload_n 0, 1) := by decide +kernel
theorem dConversions_wholePart_19 : decode cConversions_wholePart 19 = .ok (.iload_n 2, 1) := by decide +kernel
theorem dConversions_wholePart_20 : decode cConversions_wholePart 20 = .ok (.ineg, 1) := by decide +kernel
theorem dConversions_wholePart_21 : decode cConversions_wholePart 21 = .ok (.lushr, 1) := by decide +kernel
theorem dConversions_wholePart_22 : decode cConversions_wholePart 22 = .ok (.lreturn, 1) := by decide +kernel
theorem dLong_compare_0 : decode cLong_compare 0 = .ok (.lload_n 0, 1) := by decide +kernel
theorem dLong_compare_1 : decode cLong_compare 1 = .ok (.lload_n 2, 1) := by decide +kernel
theorem dLong_compare_2 : decode cLong_compare 2 = .ok (.lcmp, 1) := by decide +kernel
theorem dLong_compare_3 : decode cLong_compare 3 = .ok (.ifCond .ge 7, 3) := by decide +kernel
theorem dLong_compare_6 : decode cLong_compare 6 = .ok (.iconst (-1), 1) := by decide +kernel
theorem dLong_compare_7 : decode cLong_compare 7 = .ok (.goto 14, 3) := by decide +kernel
theorem dLong_compare_10 : decode cLong_compare 10 = .ok (.lload_n 0, 1) := by decide +kernel
theorem dLong_compare_11 : decode cLong_compare 11 = .ok (.lload_n 2, 1) := by decide +kernel
theorem dLong_compare_12 : decode cLong_compare 12 = .ok (.lcmp, 1) := by decide +kernel
theorem dLong_compare_13 : decode cLong_compare 13 = .ok (.ifCond .ne 7, 3) := by decide +kernel
theorem dLong_compare_16 : decode cLong_compare 16 = .ok (.iconst 0, 1) := by decide +kernel
theorem dLong_compare_17 : decode cLong_compare 17 = .ok (.goto 4, 3) := by decide +kernel
theorem dLong_compare_20 : decode cLong_compare 20 = .ok (.iconst 1, 1) := by decide +kernel
theorem dLong_compare_21 : decode cLong_compare 21 = .ok (.ireturn, 1) := by decide +kernel
theorem dWhole_orderWithoutSign_0 : decode cWhole_orderWithoutSign 0 = .ok (.lload_n 0, 1) := by decide +kernel
theorem dWhole_orderWithoutSign_1 : decode cWhole_orderWithoutSign 1 = .ok (.ldc2_w 19, 3) := by decide +kernel
theorem dWhole_orderWithoutSign_4 : decode cWhole_orderWithoutSign 4 = .ok (.lxor, 1) := by decide +kernel
theorem dWhole_orderWithoutSign_5 : decode cWhole_orderWithoutSign 5 = .ok (.lload_n 2, 1) := by decide +kernel
theorem dWhole_orderWithoutSign_6 : decode cWhole_orderWithoutSign 6 = .ok (.ldc2_w 19, 3) := by decide +kernel
theorem dWhole_orderWithoutSign_9 : decode cWhole_orderWithoutSign 9 = .ok (.lxor, 1) := by decide +kernel
theorem dWhole_orderWithoutSign_10 : decode cWhole_orderWithoutSign 10 = .ok (.invokestatic 21, 3) := by decide +kernel
theorem dWhole_orderWithoutSign_13 : decode cWhole_orderWithoutSign 13 = .ok (.ireturn, 1) := by decide +kernel
theorem dConversions_fits_0 : decode cConversions_fits 0 = .ok (.aload_n 0, 1) := by decide +kernel
theorem dConversions_fits_1 : decode cConversions_fits 1 = .ok (.lload_n 1, 1) := by decide +kernel
theorem dConversions_fits_2 : decode cConversions_fits 2 = .ok (.invokevirtual 80, 3) := by decide +kernel
theorem dConversions_fits_5 : decode cConversions_fits 5 = .ok (.lstore 5, 2) := by decide +kernel
theorem dConversions_fits_7 : decode cConversions_fits 7 = .ok (.aload_n 0, 1) := by decide +kernel
theorem dConversions_fits_8 : decode cConversions_fits 8 = .ok (.lload_n 1, 1) := by decide +kernel
theorem dConversions_fits_9 : decode cConversions_fits 9 = .ok (.invokevirtual 84, 3) := by decide +kernel
theorem dConversions_fits_12 : decode cConversions_fits 12 = .ok (.istore 7, 2) := by decide +kernel
theorem dConversions_fits_14 : decode cConversions_fits 14 = .ok (.iload 7, 2) := by decide +kernel
theorem dConversions_fits_16 : decode cConversions_fits 16 = .ok (.bipush 64, 2) := by decide +kernel
theorem dConversions_fits_18 : decode cConversions_fits 18 = .ok (.lload 5, 2) := by decide +kernel
theorem dConversions_fits_20 : decode cConversions_fits 20 = .ok (.invokestatic 96, 3) := by decide +kernel
theorem dConversions_fits_23 : decode cConversions_fits 23 = .ok (.isub, 1) := by decide +kernel
theorem dConversions_fits_24 : decode cConversions_fits 24 = .ok (.if_icmp .le 5, 3) := by decide +kernel
theorem dConversions_fits_27 : decode cConversions_fits 27 = .ok (.iconst 0, 1) := by decide +kernel
theorem dConversions_fits_28 : decode cConversions_fits 28 = .ok (.ireturn, 1) := by decide +kernel
theorem dConversions_fits_29 : decode cConversions_fits 29 = .ok (.lload 5, 2) := by decide +kernel
theorem dConversions_fits_31 : decode cConversions_fits 31 = .ok (.iload 7, 2) := by decide +kernel
theorem dConversions_fits_33 : decode cConversions_fits 33 = .ok (.invokestatic 88, 3) := by decide +kernel
theorem dConversions_fits_36 : decode cConversions_fits 36 = .ok (.lload_n 3, 1) := by decide +kernel
theorem dConversions_fits_37 : decode cConversions_fits 37 = .ok (.invokestatic 99, 3) := by decide +kernel
theorem dConversions_fits_40 : decode cConversions_fits 40 = .ok (.ifCond .gt 7, 3) := by decide +kernel
theorem dConversions_fits_43 : decode cConversions_fits 43 = .ok (.iconst 1, 1) := by decide +kernel
theorem dConversions_fits_44 : decode cConversions_fits 44 = .ok (.goto 4, 3) := by decide +kernel
theorem dConversions_fits_47 : decode cConversions_fits 47 = .ok (.iconst 0, 1) := by decide +kernel
theorem dConversions_fits_48 : decode cConversions_fits 48 = .ok (.ireturn, 1) := by decide +kernel
theorem dConversions_trapOf_0 : decode cConversions_trapOf 0 = .ok (.aload_n 1, 1) := by decide +kernel
theorem dConversions_trapOf_1 : decode cConversions_trapOf 1 = .ok (.lload_n 3, 1) := by decide +kernel
theorem dConversions_trapOf_2 : decode cConversions_trapOf 2 = .ok (.invokevirtual 13, 3) := by decide +kernel
theorem dConversions_trapOf_5 : decode cConversions_trapOf 5 = .ok (.ifCond .eq 5, 3) := by decide +kernel
theorem dConversions_trapOf_8 : decode cConversions_trapOf 8 = .ok (.iconst 3, 1) := by decide +kernel
theorem dConversions_trapOf_9 : decode cConversions_trapOf 9 = .ok (.ireturn, 1) := by decide +kernel
theorem dConversions_trapOf_10 : decode cConversions_trapOf 10 = .ok (.aload_n 1, 1) := by decide +kernel
theorem dConversions_trapOf_11 : decode cConversions_trapOf 11 = .ok (.lload_n 3, 1) := by decide +kernel
theorem dConversions_trapOf_12 : decode cConversions_trapOf 12 = .ok (.aload_n 1, 1) := by decide +kernel
theorem dConversions_trapOf_13 : decode cConversions_trapOf 13 = .ok (.lload_n 3, 1) := by decide +kernel
theorem dConversions_trapOf_14 : decode cConversions_trapOf 14 = .ok (.iload_n 2, 1) := by decide +kernel
theorem dConversions_trapOf_15 : decode cConversions_trapOf 15 = .ok (.iload_n 0, 1) := by decide +kernel
theorem dConversions_trapOf_16 : decode cConversions_trapOf 16 = .ok (.invokestatic 19, 3) := by decide +kernel
theorem dConversions_trapOf_19 : decode cConversions_trapOf 19 = .ok (.invokestatic 23, 3) := by decide +kernel
theorem dConversions_trapOf_22 : decode cConversions_trapOf 22 = .ok (.invokestatic 27, 3) := by decide +kernel
theorem dConversions_trapOf_25 : decode cConversions_trapOf 25 = .ok (.ifCond .eq 7, 3) := by decide +kernel
theorem dConversions_trapOf_28 : decode cConversions_trapOf 28 = .ok (.iconst 0, 1) := by decide +kernel
theorem dConversions_trapOf_29 : decode cConversions_trapOf 29 = .ok (.goto 4, 3) := by decide +kernel
theorem dConversions_trapOf_32 : decode cConversions_trapOf 32 = .ok (.iconst 2, 1) := by decide +kernel
theorem dConversions_trapOf_33 : decode cConversions_trapOf 33 = .ok (.ireturn, 1) := by decide +kernel
theorem dFormat_of_0 : decode cFormat_of 0 = .ok (.iload_n 0, 1) := by decide +kernel
theorem dFormat_of_1 : decode cFormat_of 1 = .ok (.iconst 2, 1) := by decide +kernel
theorem dFormat_of_2 : decode cFormat_of 2 = .ok (.if_icmp .ne 9, 3) := by decide +kernel
theorem dFormat_of_5 : decode cFormat_of 5 = .ok (.getstatic 5, 3) := by decide +kernel
theorem dFormat_of_8 : decode cFormat_of 8 = .ok (.goto 6, 3) := by decide +kernel
theorem dFormat_of_11 : decode cFormat_of 11 = .ok (.getstatic 9, 3) := by decide +kernel
theorem dFormat_of_14 : decode cFormat_of 14 = .ok (.areturn, 1) := by decide +kernel
theorem dConversions_towardsZero_0 : decode cConversions_towardsZero 0 = .ok (.aload_n 1, 1) := by decide +kernel
theorem dConversions_towardsZero_1 : decode cConversions_towardsZero 1 = .ok (.lload_n 3, 1) := by decide +kernel
theorem dConversions_towardsZero_2 : decode cConversions_towardsZero 2 = .ok (.invokevirtual 13, 3) := by decide +kernel
theorem dConversions_towardsZero_5 : decode cConversions_towardsZero 5 = .ok (.ifCond .eq 5, 3) := by decide +kernel
theorem dConversions_towardsZero_8 : decode cConversions_towardsZero 8 = .ok (.lconst 0, 1) := by decide +kernel
theorem dConversions_towardsZero_9 : decode cConversions_towardsZero 9 = .ok (.lreturn, 1) := by decide +kernel
theorem dConversions_towardsZero_10 : decode cConversions_towardsZero 10 = .ok (.aload_n 1, 1) := by decide +kernel
theorem dConversions_towardsZero_11 : decode cConversions_towardsZero 11 = .ok (.lload_n 3, 1) := by decide +kernel
theorem dConversions_towardsZero_12 : decode cConversions_towardsZero 12 = .ok (.iload_n 2, 1) := by decide +kernel
theorem dConversions_towardsZero_13 : decode cConversions_towardsZero 13 = .ok (.iload_n 0, 1) := by decide +kernel
theorem dConversions_towardsZero_14 : decode cConversions_towardsZero 14 = .ok (.invokestatic 19, 3) := by decide +kernel
theorem dConversions_towardsZero_17 : decode cConversions_towardsZero 17 = .ok (.invokestatic 23, 3) := by decide +kernel
theorem dConversions_towardsZero_20 : decode cConversions_towardsZero 20 = .ok (.lstore 5, 2) := by decide +kernel
theorem dConversions_towardsZero_22 : decode cConversions_towardsZero 22 = .ok (.aload_n 1, 1) := by decide +kernel
theorem dConversions_towardsZero_23 : decode cConversions_towardsZero 23 = .ok (.lload_n 3, 1) := by decide +kernel
theorem dConversions_towardsZero_24 : decode cConversions_towardsZero 24 = .ok (.lload 5, 2) := by decide +kernel
theorem dConversions_towardsZero_26 : decode cConversions_towardsZero 26 = .ok (.invokestatic 27, 3) := by decide +kernel
theorem dConversions_towardsZero_29 : decode cConversions_towardsZero 29 = .ok (.ifCond .eq 19, 3) := by decide +kernel
theorem dConversions_towardsZero_32 : decode cConversions_towardsZero 32 = .ok (.aload_n 1, 1) := by decide +kernel
theorem dConversions_towardsZero_33 : decode cConversions_towardsZero 33 = .ok (.lload_n 3, 1) := by decide +kernel
theorem dConversions_towardsZero_34 : decode cConversions_towardsZero 34 = .ok (.invokevirtual 80, 3) := by decide +kernel
theorem dConversions_towardsZero_37 : decode cConversions_towardsZero 37 = .ok (.aload_n 1, 1) := by decide +kernel
theorem dConversions_towardsZero_38 : decode cConversions_towardsZero 38 = .ok (.lload_n 3, 1) := by decide +kernel
theorem dConversions_towardsZero_39 : decode cConversions_towardsZero 39 = .ok (.invokevirtual 84, 3) := by decide +kernel
theorem dConversions_towardsZero_42 : decode cConversions_towardsZero 42 = .ok (.invokestatic 88, 3) := by decide +kernel
theorem dConversions_towardsZero_45 : decode cConversions_towardsZero 45 = .ok (.goto 5, 3) := by decide +kernel
theorem dConversions_towardsZero_48 : decode cConversions_towardsZero 48 = .ok (.lload 5, 2) := by decide +kernel
theorem dConversions_towardsZero_50 : decode cConversions_towardsZero 50 = .ok (.lstore 7, 2) := by decide +kernel
theorem dConversions_towardsZero_52 : decode cConversions_towardsZero 52 = .ok (.aload_n 1, 1) := by decide +kernel
theorem dConversions_towardsZero_53 : decode cConversions_towardsZero 53 = .ok (.lload_n 3, 1) := by decide +kernel
theorem dConversions_towardsZero_54 : decode cConversions_towardsZero 54 = .ok (.invokevirtual 70, 3) := by decide +kernel
theorem dConversions_towardsZero_57 : decode cConversions_towardsZero 57 = .ok (.ifCond .eq 9, 3) := by decide +kernel
theorem dConversions_towardsZero_60 : decode cConversions_towardsZero 60 = .ok (.lload 7, 2) := by decide +kernel
theorem dConversions_towardsZero_62 : decode cConversions_towardsZero 62 = .ok (.lneg, 1) := by decide +kernel
theorem dConversions_towardsZero_63 : decode cConversions_towardsZero 63 = .ok (.goto 5, 3) := by decide +kernel
theorem dConversions_towardsZero_66 : decode cConversions_towardsZero 66 = .ok (.lload 7, 2) := by decide +kernel
theorem dConversions_towardsZero_68 : decode cConversions_towardsZero 68 = .ok (.lreturn, 1) := by decide +kernel
theorem dWhole_withSign_0 : decode cWhole_withSign 0 = .ok (.iload_n 0, 1) := by decide +kernel
theorem dWhole_withSign_1 : decode cWhole_withSign 1 = .ok (.ifCond .ne 9, 3) := by decide +kernel
theorem dWhole_withSign_4 : decode cWhole_withSign 4 = .ok (.lload_n 1, 1) := by decide +kernel
theorem dWhole_withSign_5 : decode cWhole_withSign 5 = .ok (.l2i, 1) := by decide +kernel
theorem dWhole_withSign_6 : decode cWhole_withSign 6 = .ok (.i2l, 1) := by decide +kernel
theorem dWhole_withSign_7 : decode cWhole_withSign 7 = .ok (.goto 4, 3) := by decide +kernel
theorem dWhole_withSign_10 : decode cWhole_withSign 10 = .ok (.lload_n 1, 1) := by decide +kernel
theorem dWhole_withSign_11 : decode cWhole_withSign 11 = .ok (.lreturn, 1) := by decide +kernel
theorem dFormat_isInfinite_0 : decode cFormat_isInfinite 0 = .ok (.lload_n 1, 1) := by decide +kernel
theorem dFormat_isInfinite_1 : decode cFormat_isInfinite 1 = .ok (.aload_n 0, 1) := by decide +kernel
theorem dFormat_isInfinite_2 : decode cFormat_isInfinite 2 = .ok (.getfield 41, 3) := by decide +kernel
theorem dFormat_isInfinite_5 : decode cFormat_isInfinite 5 = .ok (.ldc2_w 56, 3) := by decide +kernel
theorem dFormat_isInfinite_8 : decode cFormat_isInfinite 8 = .ok (.lxor, 1) := by decide +kernel
theorem dFormat_isInfinite_9 : decode cFormat_isInfinite 9 = .ok (.land, 1) := by decide +kernel
theorem dFormat_isInfinite_10 : decode cFormat_isInfinite 10 = .ok (.aload_n 0, 1) := by decide +kernel
theorem dFormat_isInfinite_11 : decode cFormat_isInfinite 11 = .ok (.getfield 50, 3) := by decide +kernel
theorem dFormat_isInfinite_14 : decode cFormat_isInfinite 14 = .ok (.lcmp, 1) := by decide +kernel
theorem dFormat_isInfinite_15 : decode cFormat_isInfinite 15 = .ok (.ifCond .ne 7, 3) := by decide +kernel
theorem dFormat_isInfinite_18 : decode cFormat_isInfinite 18 = .ok (.iconst 1, 1) := by decide +kernel
theorem dFormat_isInfinite_19 : decode cFormat_isInfinite 19 = .ok (.goto 4, 3) := by decide +kernel
theorem dFormat_isInfinite_22 : decode cFormat_isInfinite 22 = .ok (.iconst 0, 1) := by decide +kernel
theorem dFormat_isInfinite_23 : decode cFormat_isInfinite 23 = .ok (.ireturn, 1) := by decide +kernel
theorem dFormat_signed_0 : decode cFormat_signed 0 = .ok (.iload_n 1, 1) := by decide +kernel
theorem dFormat_signed_1 : decode cFormat_signed 1 = .ok (.ifCond .eq 12, 3) := by decide +kernel
theorem dFormat_signed_4 : decode cFormat_signed 4 = .ok (.lload_n 2, 1) := by decide +kernel
theorem dFormat_signed_5 : decode cFormat_signed 5 = .ok (.aload_n 0, 1) := by decide +kernel
theorem dFormat_signed_6 : decode cFormat_signed 6 = .ok (.getfield 41, 3) := by decide +kernel
theorem dFormat_signed_9 : decode cFormat_signed 9 = .ok (.lor, 1) := by decide +kernel
theorem dFormat_signed_10 : decode cFormat_signed 10 = .ok (.goto 4, 3) := by decide +kernel
theorem dFormat_signed_13 : decode cFormat_signed 13 = .ok (.lload_n 2, 1) := by decide +kernel
theorem dFormat_signed_14 : decode cFormat_signed 14 = .ok (.lreturn, 1) := by decide +kernel
theorem dFormat_nearest_0 : decode cFormat_nearest 0 = .ok (.iload_n 2, 1) := by decide +kernel
theorem dFormat_nearest_1 : decode cFormat_nearest 1 = .ok (.ifCond .le 9, 3) := by decide +kernel
theorem dFormat_nearest_4 : decode cFormat_nearest 4 = .ok (.iload_n 2, 1) := by decide +kernel
theorem dFormat_nearest_5 : decode cFormat_nearest 5 = .ok (.bipush 63, 2) := by decide +kernel
theorem dFormat_nearest_7 : decode cFormat_nearest 7 = .ok (.if_icmp .le 13, 3) := by decide +kernel
theorem dFormat_nearest_10 : decode cFormat_nearest 10 = .ok (.iload_n 2, 1) := by decide +kernel
theorem dFormat_nearest_11 : decode cFormat_nearest 11 = .ok (.ifCond .gt 7, 3) := by decide +kernel
theorem dFormat_nearest_14 : decode cFormat_nearest 14 = .ok (.lload_n 0, 1) := by decide +kernel
theorem dFormat_nearest_15 : decode cFormat_nearest 15 = .ok (.goto 4, 3) := by decide +kernel
theorem dFormat_nearest_18 : decode cFormat_nearest 18 = .ok (.lconst 0, 1) := by decide +kernel
theorem dFormat_nearest_19 : decode cFormat_nearest 19 = .ok (.lreturn, 1) := by decide +kernel
theorem dFormat_nearest_20 : decode cFormat_nearest 20 = .ok (.lload_n 0, 1) := by decide +kernel
theorem dFormat_nearest_21 : decode cFormat_nearest 21 = .ok (.iload_n 2, 1) := by decide +kernel
theorem dFormat_nearest_22 : decode cFormat_nearest 22 = .ok (.lushr, 1) := by decide +kernel
theorem dFormat_nearest_23 : decode cFormat_nearest 23 = .ok (.lstore_n 3, 1) := by decide +kernel
theorem dFormat_nearest_24 : decode cFormat_nearest 24 = .ok (.lload_n 0, 1) := by decide +kernel
theorem dFormat_nearest_25 : decode cFormat_nearest 25 = .ok (.lload_n 3, 1) := by decide +kernel
theorem dFormat_nearest_26 : decode cFormat_nearest 26 = .ok (.iload_n 2, 1) := by decide +kernel
theorem dFormat_nearest_27 : decode cFormat_nearest 27 = .ok (.lshl, 1) := by decide +kernel
theorem dFormat_nearest_28 : decode cFormat_nearest 28 = .ok (.lsub, 1) := by decide +kernel
theorem dFormat_nearest_29 : decode cFormat_nearest 29 = .ok (.lstore 5, 2) := by decide +kernel
theorem dFormat_nearest_31 : decode cFormat_nearest 31 = .ok (.lconst 1, 1) := by decide +kernel
theorem dFormat_nearest_32 : decode cFormat_nearest 32 = .ok (.iload_n 2, 1) := by decide +kernel
theorem dFormat_nearest_33 : decode cFormat_nearest 33 = .ok (.iconst 1, 1) := by decide +kernel
theorem dFormat_nearest_34 : decode cFormat_nearest 34 = .ok (.isub, 1) := by decide +kernel
theorem dFormat_nearest_35 : decode cFormat_nearest 35 = .ok (.lshl, 1) := by decide +kernel
theorem dFormat_nearest_36 : decode cFormat_nearest 36 = .ok (.lstore 7, 2) := by decide +kernel
theorem dFormat_nearest_38 : decode cFormat_nearest 38 = .ok (.lload 5, 2) := by decide +kernel
theorem dFormat_nearest_40 : decode cFormat_nearest 40 = .ok (.lload 7, 2) := by decide +kernel
theorem dFormat_nearest_42 : decode cFormat_nearest 42 = .ok (.lcmp, 1) := by decide +kernel
theorem dFormat_nearest_43 : decode cFormat_nearest 43 = .ok (.ifCond .gt 19, 3) := by decide +kernel
theorem dFormat_nearest_46 : decode cFormat_nearest 46 = .ok (.lload 5, 2) := by decide +kernel
theorem dFormat_nearest_48 : decode cFormat_nearest 48 = .ok (.lload 7, 2) := by decide +kernel
theorem dFormat_nearest_50 : decode cFormat_nearest 50 = .ok (.lcmp, 1) := by decide +kernel
theorem dFormat_nearest_51 : decode cFormat_nearest 51 = .ok (.ifCond .ne 15, 3) := by decide +kernel
theorem dFormat_nearest_54 : decode cFormat_nearest 54 = .ok (.lload_n 3, 1) := by decide +kernel
theorem dFormat_nearest_55 : decode cFormat_nearest 55 = .ok (.lconst 1, 1) := by decide +kernel
theorem dFormat_nearest_56 : decode cFormat_nearest 56 = .ok (.land, 1) := by decide +kernel
theorem dFormat_nearest_57 : decode cFormat_nearest 57 = .ok (.lconst 0, 1) := by decide +kernel
theorem dFormat_nearest_58 : decode cFormat_nearest 58 = .ok (.lcmp, 1) := by decide +kernel
theorem dFormat_nearest_59 : decode cFormat_nearest 59 = .ok (.ifCond .eq 7, 3) := by decide +kernel
theorem dFormat_nearest_62 : decode cFormat_nearest 62 = .ok (.iconst 1, 1) := by decide +kernel
theorem dFormat_nearest_63 : decode cFormat_nearest 63 = .ok (.goto 4, 3) := by decide +kernel
theorem dFormat_nearest_66 : decode cFormat_nearest 66 = .ok (.iconst 0, 1) := by decide +kernel
theorem dFormat_nearest_67 : decode cFormat_nearest 67 = .ok (.istore 9, 2) := by decide +kernel
theorem dFormat_nearest_69 : decode cFormat_nearest 69 = .ok (.iload 9, 2) := by decide +kernel
theorem dFormat_nearest_71 : decode cFormat_nearest 71 = .ok (.ifCond .eq 9, 3) := by decide +kernel
theorem dFormat_nearest_74 : decode cFormat_nearest 74 = .ok (.lload_n 3, 1) := by decide +kernel
theorem dFormat_nearest_75 : decode cFormat_nearest 75 = .ok (.lconst 1, 1) := by decide +kernel
theorem dFormat_nearest_76 : decode cFormat_nearest 76 = .ok (.ladd, 1) := by decide +kernel
theorem dFormat_nearest_77 : decode cFormat_nearest 77 = .ok (.goto 4, 3) := by decide +kernel
theorem dFormat_nearest_80 : decode cFormat_nearest 80 = .ok (.lload_n 3, 1) := by decide +kernel
theorem dFormat_nearest_81 : decode cFormat_nearest 81 = .ok (.lreturn, 1) := by decide +kernel
theorem dFormat_rounded_0 : decode cFormat_rounded 0 = .ok (.lload_n 2, 1) := by decide +kernel
theorem dFormat_rounded_1 : decode cFormat_rounded 1 = .ok (.lconst 0, 1) := by decide +kernel
theorem dFormat_rounded_2 : decode cFormat_rounded 2 = .ok (.lcmp, 1) := by decide +kernel
theorem dFormat_rounded_3 : decode cFormat_rounded 3 = .ok (.ifCond .ne 10, 3) := by decide +kernel
theorem dFormat_rounded_6 : decode cFormat_rounded 6 = .ok (.aload_n 0, 1) := by decide +kernel
theorem dFormat_rounded_7 : decode cFormat_rounded 7 = .ok (.iload_n 1, 1) := by decide +kernel
theorem dFormat_rounded_8 : decode cFormat_rounded 8 = .ok (.lconst 0, 1) := by decide +kernel
theorem dFormat_rounded_9 : decode cFormat_rounded 9 = .ok (.invokevirtual 78, 3) := by decide +kernel
theorem dFormat_rounded_12 : decode cFormat_rounded 12 = .ok (.lreturn, 1) := by decide +kernel
theorem dFormat_rounded_13 : decode cFormat_rounded 13 = .ok (.lload_n 2, 1) := by decide +kernel
theorem dFormat_rounded_14 : decode cFormat_rounded 14 = .ok (.invokestatic 82, 3) := by decide +kernel
theorem dFormat_rounded_17 : decode cFormat_rounded 17 = .ok (.istore 5, 2) := by decide +kernel
theorem dFormat_rounded_19 : decode cFormat_rounded 19 = .ok (.iload 4, 2) := by decide +kernel
theorem dFormat_rounded_21 : decode cFormat_rounded 21 = .ok (.iload 5, 2) := by decide +kernel
theorem dFormat_rounded_23 : decode cFormat_rounded 23 = .ok (.iadd, 1) := by decide +kernel
theorem dFormat_rounded_24 : decode cFormat_rounded 24 = .ok (.aload_n 0, 1) := by decide +kernel
theorem dFormat_rounded_25 : decode cFormat_rounded 25 = .ok (.getfield 31, 3) := by decide +kernel
theorem dFormat_rounded_28 : decode cFormat_rounded 28 = .ok (.isub, 1) := by decide +kernel
theorem dFormat_rounded_29 : decode cFormat_rounded 29 = .ok (.aload_n 0, 1) := by decide +kernel
theorem dFormat_rounded_30 : decode cFormat_rounded 30 = .ok (.getfield 38, 3) := by decide +kernel
theorem dFormat_rounded_33 : decode cFormat_rounded 33 = .ok (.invokestatic 72, 3) := by decide +kernel
theorem dFormat_rounded_36 : decode cFormat_rounded 36 = .ok (.istore 6, 2) := by decide +kernel
theorem dFormat_rounded_38 : decode cFormat_rounded 38 = .ok (.iload 6, 2) := by decide +kernel
theorem dFormat_rounded_40 : decode cFormat_rounded 40 = .ok (.aload_n 0, 1) := by decide +kernel
theorem dFormat_rounded_41 : decode cFormat_rounded 41 = .ok (.getfield 38, 3) := by decide +kernel
theorem dFormat_rounded_44 : decode cFormat_rounded 44 = .ok (.isub, 1) := by decide +kernel
theorem dFormat_rounded_45 : decode cFormat_rounded 45 = .ok (.istore 7, 2) := by decide +kernel
theorem dFormat_rounded_47 : decode cFormat_rounded 47 = .ok (.iload 7, 2) := by decide +kernel
theorem dFormat_rounded_49 : decode cFormat_rounded 49 = .ok (.aload_n 0, 1) := by decide +kernel
theorem dFormat_rounded_50 : decode cFormat_rounded 50 = .ok (.getfield 35, 3) := by decide +kernel
theorem dFormat_rounded_53 : decode cFormat_rounded 53 = .ok (.iconst 1, 1) := by decide +kernel
theorem dFormat_rounded_54 : decode cFormat_rounded 54 = .ok (.isub, 1) := by decide +kernel
theorem dFormat_rounded_55 : decode cFormat_rounded 55 = .ok (.if_icmp .lt 13, 3) := by decide +kernel
theorem dFormat_rounded_58 : decode cFormat_rounded 58 = .ok (.aload_n 0, 1) := by decide +kernel
theorem dFormat_rounded_59 : decode cFormat_rounded 59 = .ok (.iload_n 1, 1) := by decide +kernel
theorem dFormat_rounded_60 : decode cFormat_rounded 60 = .ok (.aload_n 0, 1) := by decide +kernel
theorem dFormat_rounded_61 : decode cFormat_rounded 61 = .ok (.getfield 50, 3) := by decide +kernel
theorem dFormat_rounded_64 : decode cFormat_rounded 64 = .ok (.invokevirtual 78, 3) := by decide +kernel
theorem dFormat_rounded_67 : decode cFormat_rounded 67 = .ok (.lreturn, 1) := by decide +kernel
theorem dFormat_rounded_68 : decode cFormat_rounded 68 = .ok (.iload 6, 2) := by decide +kernel
theorem dFormat_rounded_70 : decode cFormat_rounded 70 = .ok (.iload 4, 2) := by decide +kernel
theorem dFormat_rounded_72 : decode cFormat_rounded 72 = .ok (.isub, 1) := by decide +kernel
theorem dFormat_rounded_73 : decode cFormat_rounded 73 = .ok (.istore 8, 2) := by decide +kernel
theorem dFormat_rounded_75 : decode cFormat_rounded 75 = .ok (.iload 8, 2) := by decide +kernel
theorem dFormat_rounded_77 : decode cFormat_rounded 77 = .ok (.ifCond .ge 11, 3) := by decide +kernel
theorem dFormat_rounded_80 : decode cFormat_rounded 80 = .ok (.lload_n 2, 1) := by decide +kernel
theorem dFormat_rounded_81 : decode cFormat_rounded 81 = .ok (.iload 8, 2) := by decide +kernel
theorem dFormat_rounded_83 : decode cFormat_rounded 83 = .ok (.ineg, 1) := by decide +kernel
theorem dFormat_rounded_84 : decode cFormat_rounded 84 = .ok (.lshl, 1) := by decide +kernel
theorem dFormat_rounded_85 : decode cFormat_rounded 85 = .ok (.goto 9, 3) := by decide +kernel
theorem dFormat_rounded_88 : decode cFormat_rounded 88 = .ok (.lload_n 2, 1) := by decide +kernel
theorem dFormat_rounded_89 : decode cFormat_rounded 89 = .ok (.iload 8, 2) := by decide +kernel
theorem dFormat_rounded_91 : decode cFormat_rounded 91 = .ok (.invokestatic 87, 3) := by decide +kernel
theorem dFormat_rounded_94 : decode cFormat_rounded 94 = .ok (.lstore 9, 2) := by decide +kernel
theorem dFormat_rounded_96 : decode cFormat_rounded 96 = .ok (.aload_n 0, 1) := by decide +kernel
theorem dFormat_rounded_97 : decode cFormat_rounded 97 = .ok (.iload_n 1, 1) := by decide +kernel
theorem dFormat_rounded_98 : decode cFormat_rounded 98 = .ok (.iload 7, 2) := by decide +kernel
theorem dFormat_rounded_100 : decode cFormat_rounded 100 = .ok (.i2l, 1) := by decide +kernel
theorem dFormat_rounded_101 : decode cFormat_rounded 101 = .ok (.aload_n 0, 1) := by decide +kernel
theorem dFormat_rounded_102 : decode cFormat_rounded 102 = .ok (.getfield 31, 3) := by decide +kernel
theorem dFormat_rounded_105 : decode cFormat_rounded 105 = .ok (.iconst 1, 1) := by decide +kernel
theorem dFormat_rounded_106 : decode cFormat_rounded 106 = .ok (.isub, 1) := by decide +kernel
theorem dFormat_rounded_107 : decode cFormat_rounded 107 = .ok (.lshl, 1) := by decide +kernel
theorem dFormat_rounded_108 : decode cFormat_rounded 108 = .ok (.lload 9, 2) := by decide +kernel
theorem dFormat_rounded_110 : decode cFormat_rounded 110 = .ok (.ladd, 1) := by decide +kernel
theorem dFormat_rounded_111 : decode cFormat_rounded 111 = .ok (.invokevirtual 78, 3) := by decide +kernel
theorem dFormat_rounded_114 : decode cFormat_rounded 114 = .ok (.lreturn, 1) := by decide +kernel
theorem dConversions_otherFormat_0 : decode cConversions_otherFormat 0 = .ok (.aload_n 0, 1) := by decide +kernel
theorem dConversions_otherFormat_1 : decode cConversions_otherFormat 1 = .ok (.lload_n 2, 1) := by decide +kernel
theorem dConversions_otherFormat_2 : decode cConversions_otherFormat 2 = .ok (.invokevirtual 13, 3) := by decide +kernel
theorem dConversions_otherFormat_5 : decode cConversions_otherFormat 5 = .ok (.ifCond .eq 8, 3) := by decide +kernel
theorem dConversions_otherFormat_8 : decode cConversions_otherFormat 8 = .ok (.aload_n 1, 1) := by decide +kernel
theorem dConversions_otherFormat_9 : decode cConversions_otherFormat 9 = .ok (.getfield 63, 3) := by decide +kernel
theorem dConversions_otherFormat_12 : decode cConversions_otherFormat 12 = .ok (.lreturn, 1) := by decide +kernel
theorem dConversions_otherFormat_13 : decode cConversions_otherFormat 13 = .ok (.aload_n 0, 1) := by decide +kernel
theorem dConversions_otherFormat_14 : decode cConversions_otherFormat 14 = .ok (.lload_n 2, 1) := by decide +kernel
theorem dConversions_otherFormat_15 : decode cConversions_otherFormat 15 = .ok (.invokevirtual 67, 3) := by decide +kernel
theorem dConversions_otherFormat_18 : decode cConversions_otherFormat 18 = .ok (.ifCond .eq 17, 3) := by decide +kernel
theorem dConversions_otherFormat_21 : decode cConversions_otherFormat 21 = .ok (.aload_n 1, 1) := by decide +kernel
theorem dConversions_otherFormat_22 : decode cConversions_otherFormat 22 = .ok (.aload_n 0, 1) := by decide +kernel
theorem dConversions_otherFormat_23 : decode cConversions_otherFormat 23 = .ok (.lload_n 2, 1) := by decide +kernel
theorem dConversions_otherFormat_24 : decode cConversions_otherFormat 24 = .ok (.invokevirtual 70, 3) := by decide +kernel
theorem dConversions_otherFormat_27 : decode cConversions_otherFormat 27 = .ok (.aload_n 1, 1) := by decide +kernel
theorem dConversions_otherFormat_28 : decode cConversions_otherFormat 28 = .ok (.getfield 73, 3) := by decide +kernel
theorem dConversions_otherFormat_31 : decode cConversions_otherFormat 31 = .ok (.invokevirtual 76, 3) := by decide +kernel
theorem dConversions_otherFormat_34 : decode cConversions_otherFormat 34 = .ok (.lreturn, 1) := by decide +kernel
theorem dConversions_otherFormat_35 : decode cConversions_otherFormat 35 = .ok (.aload_n 1, 1) := by decide +kernel
theorem dConversions_otherFormat_36 : decode cConversions_otherFormat 36 = .ok (.aload_n 0, 1) := by decide +kernel
theorem dConversions_otherFormat_37 : decode cConversions_otherFormat 37 = .ok (.lload_n 2, 1) := by decide +kernel
theorem dConversions_otherFormat_38 : decode cConversions_otherFormat 38 = .ok (.invokevirtual 70, 3) := by decide +kernel
theorem dConversions_otherFormat_41 : decode cConversions_otherFormat 41 = .ok (.aload_n 0, 1) := by decide +kernel
theorem dConversions_otherFormat_42 : decode cConversions_otherFormat 42 = .ok (.lload_n 2, 1) := by decide +kernel
theorem dConversions_otherFormat_43 : decode cConversions_otherFormat 43 = .ok (.invokevirtual 80, 3) := by decide +kernel
theorem dConversions_otherFormat_46 : decode cConversions_otherFormat 46 = .ok (.aload_n 0, 1) := by decide +kernel
theorem dConversions_otherFormat_47 : decode cConversions_otherFormat 47 = .ok (.lload_n 2, 1) := by decide +kernel
theorem dConversions_otherFormat_48 : decode cConversions_otherFormat 48 = .ok (.invokevirtual 84, 3) := by decide +kernel
theorem dConversions_otherFormat_51 : decode cConversions_otherFormat 51 = .ok (.invokevirtual 59, 3) := by decide +kernel
theorem dConversions_otherFormat_54 : decode cConversions_otherFormat 54 = .ok (.lreturn, 1) := by decide +kernel
theorem dConversions_fromWhole_0 : decode cConversions_fromWhole 0 = .ok (.iload_n 0, 1) := by decide +kernel
theorem dConversions_fromWhole_1 : decode cConversions_fromWhole 1 = .ok (.ifCond .eq 11, 3) := by decide +kernel
theorem dConversions_fromWhole_4 : decode cConversions_fromWhole 4 = .ok (.iload_n 1, 1) := by decide +kernel
theorem dConversions_fromWhole_5 : decode cConversions_fromWhole 5 = .ok (.lload_n 3, 1) := by decide +kernel
theorem dConversions_fromWhole_6 : decode cConversions_fromWhole 6 = .ok (.invokestatic 42, 3) := by decide +kernel
theorem dConversions_fromWhole_9 : decode cConversions_fromWhole 9 = .ok (.goto 4, 3) := by decide +kernel
theorem dConversions_fromWhole_12 : decode cConversions_fromWhole 12 = .ok (.lload_n 3, 1) := by decide +kernel
theorem dConversions_fromWhole_13 : decode cConversions_fromWhole 13 = .ok (.lstore 5, 2) := by decide +kernel
theorem dConversions_fromWhole_15 : decode cConversions_fromWhole 15 = .ok (.iload_n 0, 1) := by decide +kernel
theorem dConversions_fromWhole_16 : decode cConversions_fromWhole 16 = .ok (.ifCond .eq 14, 3) := by decide +kernel
theorem dConversions_fromWhole_19 : decode cConversions_fromWhole 19 = .ok (.lload 5, 2) := by decide +kernel
theorem dConversions_fromWhole_21 : decode cConversions_fromWhole 21 = .ok (.lconst 0, 1) := by decide +kernel
theorem dConversions_fromWhole_22 : decode cConversions_fromWhole 22 = .ok (.lcmp, 1) := by decide +kernel
theorem dConversions_fromWhole_23 : decode cConversions_fromWhole 23 = .ok (.ifCond .ge 7, 3) := by decide +kernel
theorem dConversions_fromWhole_26 : decode cConversions_fromWhole 26 = .ok (.iconst 1, 1) := by decide +kernel
theorem dConversions_fromWhole_27 : decode cConversions_fromWhole 27 = .ok (.goto 4, 3) := by decide +kernel
theorem dConversions_fromWhole_30 : decode cConversions_fromWhole 30 = .ok (.iconst 0, 1) := by decide +kernel
theorem dConversions_fromWhole_31 : decode cConversions_fromWhole 31 = .ok (.istore 7, 2) := by decide +kernel
theorem dConversions_fromWhole_33 : decode cConversions_fromWhole 33 = .ok (.aload_n 2, 1) := by decide +kernel
theorem dConversions_fromWhole_34 : decode cConversions_fromWhole 34 = .ok (.iload 7, 2) := by decide +kernel
theorem dConversions_fromWhole_36 : decode cConversions_fromWhole 36 = .ok (.iload 7, 2) := by decide +kernel
theorem dConversions_fromWhole_38 : decode cConversions_fromWhole 38 = .ok (.ifCond .eq 9, 3) := by decide +kernel
theorem dConversions_fromWhole_41 : decode cConversions_fromWhole 41 = .ok (.lload 5, 2) := by decide +kernel
theorem dConversions_fromWhole_43 : decode cConversions_fromWhole 43 = .ok (.lneg, 1) := by decide +kernel
theorem dConversions_fromWhole_44 : decode cConversions_fromWhole 44 = .ok (.goto 5, 3) := by decide +kernel
theorem dConversions_fromWhole_47 : decode cConversions_fromWhole 47 = .ok (.lload 5, 2) := by decide +kernel
theorem dConversions_fromWhole_49 : decode cConversions_fromWhole 49 = .ok (.iconst 0, 1) := by decide +kernel
theorem dConversions_fromWhole_50 : decode cConversions_fromWhole 50 = .ok (.invokevirtual 59, 3) := by decide +kernel
theorem dConversions_fromWhole_53 : decode cConversions_fromWhole 53 = .ok (.lreturn, 1) := by decide +kernel
theorem dConversions_lowestWithSign_0 : decode cConversions_lowestWithSign 0 = .ok (.iload_n 0, 1) := by decide +kernel
theorem dConversions_lowestWithSign_1 : decode cConversions_lowestWithSign 1 = .ok (.tableswitch 41 192 195 #[31, 36, 31, 36], 31) := by decide +kernel
theorem dConversions_lowestWithSign_32 : decode cConversions_lowestWithSign 32 = .ok (.lload_n 1, 1) := by decide +kernel
theorem dConversions_lowestWithSign_33 : decode cConversions_lowestWithSign 33 = .ok (.l2i, 1) := by decide +kernel
theorem dConversions_lowestWithSign_34 : decode cConversions_lowestWithSign 34 = .ok (.i2b, 1) := by decide +kernel
theorem dConversions_lowestWithSign_35 : decode cConversions_lowestWithSign 35 = .ok (.i2l, 1) := by decide +kernel
theorem dConversions_lowestWithSign_36 : decode cConversions_lowestWithSign 36 = .ok (.lreturn, 1) := by decide +kernel
theorem dConversions_lowestWithSign_37 : decode cConversions_lowestWithSign 37 = .ok (.lload_n 1, 1) := by decide +kernel
theorem dConversions_lowestWithSign_38 : decode cConversions_lowestWithSign 38 = .ok (.l2i, 1) := by decide +kernel
theorem dConversions_lowestWithSign_39 : decode cConversions_lowestWithSign 39 = .ok (.i2s, 1) := by decide +kernel
theorem dConversions_lowestWithSign_40 : decode cConversions_lowestWithSign 40 = .ok (.i2l, 1) := by decide +kernel
theorem dConversions_lowestWithSign_41 : decode cConversions_lowestWithSign 41 = .ok (.lreturn, 1) := by decide +kernel
theorem dConversions_lowestWithSign_42 : decode cConversions_lowestWithSign 42 = .ok (.lload_n 1, 1) := by decide +kernel
theorem dConversions_lowestWithSign_43 : decode cConversions_lowestWithSign 43 = .ok (.l2i, 1) := by decide +kernel
theorem dConversions_lowestWithSign_44 : decode cConversions_lowestWithSign 44 = .ok (.i2l, 1) := by decide +kernel
theorem dConversions_lowestWithSign_45 : decode cConversions_lowestWithSign 45 = .ok (.lreturn, 1) := by decide +kernel
theorem dConversions_result_0 : decode cConversions_result 0 = .ok (.iload_n 0, 1) := by decide +kernel
theorem dConversions_result_1 : decode cConversions_result 1 = .ok (.invokestatic 31, 3) := by decide +kernel
theorem dConversions_result_4 : decode cConversions_result 4 = .ok (.ifCond .eq 14, 3) := by decide +kernel
theorem dConversions_result_7 : decode cConversions_result 7 = .ok (.iload_n 0, 1) := by decide +kernel
theorem dConversions_result_8 : decode cConversions_result 8 = .ok (.iload_n 1, 1) := by decide +kernel
theorem dConversions_result_9 : decode cConversions_result 9 = .ok (.invokestatic 34, 3) := by decide +kernel
theorem dConversions_result_12 : decode cConversions_result 12 = .ok (.iload_n 2, 1) := by decide +kernel
theorem dConversions_result_13 : decode cConversions_result 13 = .ok (.lload_n 3, 1) := by decide +kernel
theorem dConversions_result_14 : decode cConversions_result 14 = .ok (.invokestatic 38, 3) := by decide +kernel
theorem dConversions_result_17 : decode cConversions_result 17 = .ok (.lreturn, 1) := by decide +kernel
theorem dConversions_result_18 : decode cConversions_result 18 = .ok (.iload_n 0, 1) := by decide +kernel
theorem dConversions_result_19 : decode cConversions_result 19 = .ok (.sipush 167, 3) := by decide +kernel
theorem dConversions_result_22 : decode cConversions_result 22 = .ok (.if_icmp .eq 24, 3) := by decide +kernel
theorem dConversions_result_25 : decode cConversions_result 25 = .ok (.iload_n 0, 1) := by decide +kernel
theorem dConversions_result_26 : decode cConversions_result 26 = .ok (.sipush 173, 3) := by decide +kernel
theorem dConversions_result_29 : decode cConversions_result 29 = .ok (.if_icmp .eq 17, 3) := by decide +kernel
theorem dConversions_result_32 : decode cConversions_result 32 = .ok (.iload_n 0, 1) := by decide +kernel
theorem dConversions_result_33 : decode cConversions_result 33 = .ok (.sipush 188, 3) := by decide +kernel
theorem dConversions_result_36 : decode cConversions_result 36 = .ok (.if_icmp .lt 12, 3) := by decide +kernel
theorem dConversions_result_39 : decode cConversions_result 39 = .ok (.iload_n 0, 1) := by decide +kernel
theorem dConversions_result_40 : decode cConversions_result 40 = .ok (.sipush 191, 3) := by decide +kernel
theorem dConversions_result_43 : decode cConversions_result 43 = .ok (.if_icmp .gt 5, 3) := by decide +kernel
theorem dConversions_result_46 : decode cConversions_result 46 = .ok (.lload_n 3, 1) := by decide +kernel
theorem dConversions_result_47 : decode cConversions_result 47 = .ok (.lreturn, 1) := by decide +kernel
theorem dConversions_result_48 : decode cConversions_result 48 = .ok (.iload_n 0, 1) := by decide +kernel
theorem dConversions_result_49 : decode cConversions_result 49 = .ok (.sipush 172, 3) := by decide +kernel
theorem dConversions_result_52 : decode cConversions_result 52 = .ok (.if_icmp .ne 9, 3) := by decide +kernel
theorem dConversions_result_55 : decode cConversions_result 55 = .ok (.iload_n 1, 1) := by decide +kernel
theorem dConversions_result_56 : decode cConversions_result 56 = .ok (.lload_n 3, 1) := by decide +kernel
theorem dConversions_result_57 : decode cConversions_result 57 = .ok (.invokestatic 42, 3) := by decide +kernel
theorem dConversions_result_60 : decode cConversions_result 60 = .ok (.lreturn, 1) := by decide +kernel
theorem dConversions_result_61 : decode cConversions_result 61 = .ok (.iload_n 0, 1) := by decide +kernel
theorem dConversions_result_62 : decode cConversions_result 62 = .ok (.sipush 182, 3) := by decide +kernel
theorem dConversions_result_65 : decode cConversions_result 65 = .ok (.if_icmp .eq 10, 3) := by decide +kernel
theorem dConversions_result_68 : decode cConversions_result 68 = .ok (.iload_n 0, 1) := by decide +kernel
theorem dConversions_result_69 : decode cConversions_result 69 = .ok (.sipush 187, 3) := by decide +kernel
theorem dConversions_result_72 : decode cConversions_result 72 = .ok (.if_icmp .ne 16, 3) := by decide +kernel
theorem dConversions_result_75 : decode cConversions_result 75 = .ok (.iload_n 1, 1) := by decide +kernel
theorem dConversions_result_76 : decode cConversions_result 76 = .ok (.invokestatic 34, 3) := by decide +kernel
theorem dConversions_result_79 : decode cConversions_result 79 = .ok (.iload_n 2, 1) := by decide +kernel
theorem dConversions_result_80 : decode cConversions_result 80 = .ok (.invokestatic 34, 3) := by decide +kernel
theorem dConversions_result_83 : decode cConversions_result 83 = .ok (.lload_n 3, 1) := by decide +kernel
theorem dConversions_result_84 : decode cConversions_result 84 = .ok (.invokestatic 48, 3) := by decide +kernel
theorem dConversions_result_87 : decode cConversions_result 87 = .ok (.lreturn, 1) := by decide +kernel
theorem dConversions_result_88 : decode cConversions_result 88 = .ok (.iload_n 0, 1) := by decide +kernel
theorem dConversions_result_89 : decode cConversions_result 89 = .ok (.sipush 188, 3) := by decide +kernel
theorem dConversions_result_92 : decode cConversions_result 92 = .ok (.if_icmp .ge 17, 3) := by decide +kernel
theorem dConversions_result_95 : decode cConversions_result 95 = .ok (.iload_n 0, 1) := by decide +kernel
theorem dConversions_result_96 : decode cConversions_result 96 = .ok (.invokestatic 19, 3) := by decide +kernel
theorem dConversions_result_99 : decode cConversions_result 99 = .ok (.iload_n 1, 1) := by decide +kernel
theorem dConversions_result_100 : decode cConversions_result 100 = .ok (.iload_n 2, 1) := by decide +kernel
theorem dConversions_result_101 : decode cConversions_result 101 = .ok (.invokestatic 34, 3) := by decide +kernel
theorem dConversions_result_104 : decode cConversions_result 104 = .ok (.lload_n 3, 1) := by decide +kernel
theorem dConversions_result_105 : decode cConversions_result 105 = .ok (.invokestatic 52, 3) := by decide +kernel
theorem dConversions_result_108 : decode cConversions_result 108 = .ok (.lreturn, 1) := by decide +kernel
theorem dConversions_result_109 : decode cConversions_result 109 = .ok (.iload_n 0, 1) := by decide +kernel
theorem dConversions_result_110 : decode cConversions_result 110 = .ok (.lload_n 3, 1) := by decide +kernel
theorem dConversions_result_111 : decode cConversions_result 111 = .ok (.invokestatic 56, 3) := by decide +kernel
theorem dConversions_result_114 : decode cConversions_result 114 = .ok (.lreturn, 1) := by decide +kernel
theorem dFormat_magnitude_0 : decode cFormat_magnitude 0 = .ok (.lload_n 1, 1) := by decide +kernel
theorem dFormat_magnitude_1 : decode cFormat_magnitude 1 = .ok (.aload_n 0, 1) := by decide +kernel
theorem dFormat_magnitude_2 : decode cFormat_magnitude 2 = .ok (.getfield 41, 3) := by decide +kernel
theorem dFormat_magnitude_5 : decode cFormat_magnitude 5 = .ok (.ldc2_w 56, 3) := by decide +kernel
theorem dFormat_magnitude_8 : decode cFormat_magnitude 8 = .ok (.lxor, 1) := by decide +kernel
theorem dFormat_magnitude_9 : decode cFormat_magnitude 9 = .ok (.land, 1) := by decide +kernel
theorem dFormat_magnitude_10 : decode cFormat_magnitude 10 = .ok (.lreturn, 1) := by decide +kernel
theorem dFloating_number_0 : decode cFloating_number 0 = .ok (.aload_n 0, 1) := by decide +kernel
theorem dFloating_number_1 : decode cFloating_number 1 = .ok (.lload_n 1, 1) := by decide +kernel
theorem dFloating_number_2 : decode cFloating_number 2 = .ok (.invokevirtual 25, 3) := by decide +kernel
theorem dFloating_number_5 : decode cFloating_number 5 = .ok (.lstore_n 3, 1) := by decide +kernel
theorem dFloating_number_6 : decode cFloating_number 6 = .ok (.aload_n 0, 1) := by decide +kernel
theorem dFloating_number_7 : decode cFloating_number 7 = .ok (.lload_n 1, 1) := by decide +kernel
theorem dFloating_number_8 : decode cFloating_number 8 = .ok (.invokevirtual 33, 3) := by decide +kernel
theorem dFloating_number_11 : decode cFloating_number 11 = .ok (.ifCond .eq 8, 3) := by decide +kernel
theorem dFloating_number_14 : decode cFloating_number 14 = .ok (.lload_n 3, 1) := by decide +kernel
theorem dFloating_number_15 : decode cFloating_number 15 = .ok (.lneg, 1) := by decide +kernel
theorem dFloating_number_16 : decode cFloating_number 16 = .ok (.goto 4, 3) := by decide +kernel
theorem dFloating_number_19 : decode cFloating_number 19 = .ok (.lload_n 3, 1) := by decide +kernel
theorem dFloating_number_20 : decode cFloating_number 20 = .ok (.lreturn, 1) := by decide +kernel
theorem dFloating_test_0 : decode cFloating_test 0 = .ok (.aload_n 1, 1) := by decide +kernel
theorem dFloating_test_1 : decode cFloating_test 1 = .ok (.lload_n 2, 1) := by decide +kernel
theorem dFloating_test_2 : decode cFloating_test 2 = .ok (.invokevirtual 7, 3) := by decide +kernel
theorem dFloating_test_5 : decode cFloating_test 5 = .ok (.ifCond .ne 12, 3) := by decide +kernel
theorem dFloating_test_8 : decode cFloating_test 8 = .ok (.aload_n 1, 1) := by decide +kernel
theorem dFloating_test_9 : decode cFloating_test 9 = .ok (.lload 4, 2) := by decide +kernel
theorem dFloating_test_11 : decode cFloating_test 11 = .ok (.invokevirtual 7, 3) := by decide +kernel
theorem dFloating_test_14 : decode cFloating_test 14 = .ok (.ifCond .eq 14, 3) := by decide +kernel
theorem dFloating_test_17 : decode cFloating_test 17 = .ok (.iload_n 0, 1) := by decide +kernel
theorem dFloating_test_18 : decode cFloating_test 18 = .ok (.iconst 1, 1) := by decide +kernel
theorem dFloating_test_19 : decode cFloating_test 19 = .ok (.if_icmp .ne 7, 3) := by decide +kernel
theorem dFloating_test_22 : decode cFloating_test 22 = .ok (.iconst 1, 1) := by decide +kernel
theorem dFloating_test_23 : decode cFloating_test 23 = .ok (.goto 4, 3) := by decide +kernel
theorem dFloating_test_26 : decode cFloating_test 26 = .ok (.iconst 0, 1) := by decide +kernel
theorem dFloating_test_27 : decode cFloating_test 27 = .ok (.ireturn, 1) := by decide +kernel
theorem dFloating_test_28 : decode cFloating_test 28 = .ok (.aload_n 1, 1) := by decide +kernel
theorem dFloating_test_29 : decode cFloating_test 29 = .ok (.lload_n 2, 1) := by decide +kernel
theorem dFloating_test_30 : decode cFloating_test 30 = .ok (.invokestatic 15, 3) := by decide +kernel
theorem dFloating_test_33 : decode cFloating_test 33 = .ok (.aload_n 1, 1) := by decide +kernel
theorem dFloating_test_34 : decode cFloating_test 34 = .ok (.lload 4, 2) := by decide +kernel
theorem dFloating_test_36 : decode cFloating_test 36 = .ok (.invokestatic 15, 3) := by decide +kernel
theorem dFloating_test_39 : decode cFloating_test 39 = .ok (.invokestatic 19, 3) := by decide +kernel
theorem dFloating_test_42 : decode cFloating_test 42 = .ok (.istore 6, 2) := by decide +kernel
theorem dFloating_test_44 : decode cFloating_test 44 = .ok (.iload_n 0, 1) := by decide +kernel
theorem dFloating_test_45 : decode cFloating_test 45 = .ok (.tableswitch 105 0 5 #[39, 50, 61, 72, 83, 94], 39) := by decide +kernel
theorem dFloating_test_84 : decode cFloating_test 84 = .ok (.iload 6, 2) := by decide +kernel
theorem dFloating_test_86 : decode cFloating_test 86 = .ok (.ifCond .ne 7, 3) := by decide +kernel
theorem dFloating_test_89 : decode cFloating_test 89 = .ok (.iconst 1, 1) := by decide +kernel
theorem dFloating_test_90 : decode cFloating_test 90 = .ok (.goto 4, 3) := by decide +kernel
theorem dFloating_test_93 : decode cFloating_test 93 = .ok (.iconst 0, 1) := by decide +kernel
theorem dFloating_test_94 : decode cFloating_test 94 = .ok (.ireturn, 1) := by decide +kernel
theorem dFloating_test_95 : decode cFloating_test 95 = .ok (.iload 6, 2) := by decide +kernel
theorem dFloating_test_97 : decode cFloating_test 97 = .ok (.ifCond .eq 7, 3) := by decide +kernel
theorem dFloating_test_100 : decode cFloating_test 100 = .ok (.iconst 1, 1) := by decide +kernel
theorem dFloating_test_101 : decode cFloating_test 101 = .ok (.goto 4, 3) := by decide +kernel
theorem dFloating_test_104 : decode cFloating_test 104 = .ok (.iconst 0, 1) := by decide +kernel
theorem dFloating_test_105 : decode cFloating_test 105 = .ok (.ireturn, 1) := by decide +kernel
theorem dFloating_test_106 : decode cFloating_test 106 = .ok (.iload 6, 2) := by decide +kernel
theorem dFloating_test_108 : decode cFloating_test 108 = .ok (.ifCond .ge 7, 3) := by decide +kernel
theorem dFloating_test_111 : decode cFloating_test 111 = .ok (.iconst 1, 1) := by decide +kernel
theorem dFloating_test_112 : decode cFloating_test 112 = .ok (.goto 4, 3) := by decide +kernel
theorem dFloating_test_115 : decode cFloating_test 115 = .ok (.iconst 0, 1) := by decide +kernel
theorem dFloating_test_116 : decode cFloating_test 116 = .ok (.ireturn, 1) := by decide +kernel
theorem dFloating_test_117 : decode cFloating_test 117 = .ok (.iload 6, 2) := by decide +kernel
theorem dFloating_test_119 : decode cFloating_test 119 = .ok (.ifCond .le 7, 3) := by decide +kernel
theorem dFloating_test_122 : decode cFloating_test 122 = .ok (.iconst 1, 1) := by decide +kernel
theorem dFloating_test_123 : decode cFloating_test 123 = .ok (.goto 4, 3) := by decide +kernel
theorem dFloating_test_126 : decode cFloating_test 126 = .ok (.iconst 0, 1) := by decide +kernel
theorem dFloating_test_127 : decode cFloating_test 127 = .ok (.ireturn, 1) := by decide +kernel
theorem dFloating_test_128 : decode cFloating_test 128 = .ok (.iload 6, 2) := by decide +kernel
theorem dFloating_test_130 : decode cFloating_test 130 = .ok (.ifCond .gt 7, 3) := by decide +kernel
theorem dFloating_test_133 : decode cFloating_test 133 = .ok (.iconst 1, 1) := by decide +kernel
theorem dFloating_test_134 : decode cFloating_test 134 = .ok (.goto 4, 3) := by decide +kernel
theorem dFloating_test_137 : decode cFloating_test 137 = .ok (.iconst 0, 1) := by decide +kernel
theorem dFloating_test_138 : decode cFloating_test 138 = .ok (.ireturn, 1) := by decide +kernel
theorem dFloating_test_139 : decode cFloating_test 139 = .ok (.iload 6, 2) := by decide +kernel
theorem dFloating_test_141 : decode cFloating_test 141 = .ok (.ifCond .lt 7, 3) := by decide +kernel
theorem dFloating_test_144 : decode cFloating_test 144 = .ok (.iconst 1, 1) := by decide +kernel
theorem dFloating_test_145 : decode cFloating_test 145 = .ok (.goto 4, 3) := by decide +kernel
theorem dFloating_test_148 : decode cFloating_test 148 = .ok (.iconst 0, 1) := by decide +kernel
theorem dFloating_test_149 : decode cFloating_test 149 = .ok (.ireturn, 1) := by decide +kernel
theorem dFloating_test_150 : decode cFloating_test 150 = .ok (.iconst 0, 1) := by decide +kernel
theorem dFloating_test_151 : decode cFloating_test 151 = .ok (.ireturn, 1) := by decide +kernel
theorem dMath_min_0 : decode cMath_min 0 = .ok (.iload_n 0, 1) := by decide +kernel
theorem dMath_min_1 : decode cMath_min 1 = .ok (.iload_n 1, 1) := by decide +kernel
theorem dMath_min_2 : decode cMath_min 2 = .ok (.if_icmp .gt 7, 3) := by decide +kernel
theorem dMath_min_5 : decode cMath_min 5 = .ok (.iload_n 0, 1) := by decide +kernel
theorem dMath_min_6 : decode cMath_min 6 = .ok (.goto 4, 3) := by decide +kernel
theorem dMath_min_9 : decode cMath_min 9 = .ok (.iload_n 1, 1) := by decide +kernel
theorem dMath_min_10 : decode cMath_min 10 = .ok (.ireturn, 1) := by decide +kernel
theorem dFloating_wholeNumber_0 : decode cFloating_wholeNumber 0 = .ok (.aload_n 1, 1) := by decide +kernel
theorem dFloating_wholeNumber_1 : decode cFloating_wholeNumber 1 = .ok (.lload_n 2, 1) := by decide +kernel
theorem dFloating_wholeNumber_2 : decode cFloating_wholeNumber 2 = .ok (.invokevirtual 69, 3) := by decide +kernel
theorem dFloating_wholeNumber_5 : decode cFloating_wholeNumber 5 = .ok (.ineg, 1) := by decide +kernel
theorem dFloating_wholeNumber_6 : decode cFloating_wholeNumber 6 = .ok (.istore 4, 2) := by decide +kernel
theorem dFloating_wholeNumber_8 : decode cFloating_wholeNumber 8 = .ok (.iload 4, 2) := by decide +kernel
theorem dFloating_wholeNumber_10 : decode cFloating_wholeNumber 10 = .ok (.ifCond .gt 5, 3) := by decide +kernel
theorem dFloating_wholeNumber_13 : decode cFloating_wholeNumber 13 = .ok (.lload_n 2, 1) := by decide +kernel
theorem dFloating_wholeNumber_14 : decode cFloating_wholeNumber 14 = .ok (.lreturn, 1) := by decide +kernel
theorem dFloating_wholeNumber_15 : decode cFloating_wholeNumber 15 = .ok (.aload_n 1, 1) := by decide +kernel
theorem dFloating_wholeNumber_16 : decode cFloating_wholeNumber 16 = .ok (.lload_n 2, 1) := by decide +kernel
theorem dFloating_wholeNumber_17 : decode cFloating_wholeNumber 17 = .ok (.invokevirtual 33, 3) := by decide +kernel
theorem dFloating_wholeNumber_20 : decode cFloating_wholeNumber 20 = .ok (.istore 5, 2) := by decide +kernel
theorem dFloating_wholeNumber_22 : decode cFloating_wholeNumber 22 = .ok (.aload_n 1, 1) := by decide +kernel
theorem dFloating_wholeNumber_23 : decode cFloating_wholeNumber 23 = .ok (.lload_n 2, 1) := by decide +kernel
theorem dFloating_wholeNumber_24 : decode cFloating_wholeNumber 24 = .ok (.invokevirtual 73, 3) := by decide +kernel
theorem dFloating_wholeNumber_27 : decode cFloating_wholeNumber 27 = .ok (.lstore 6, 2) := by decide +kernel
theorem dFloating_wholeNumber_29 : decode cFloating_wholeNumber 29 = .ok (.iload_n 0, 1) := by decide +kernel
theorem dFloating_wholeNumber_30 : decode cFloating_wholeNumber 30 = .ok (.iconst 5, 1) := by decide +kernel
theorem dFloating_wholeNumber_31 : decode cFloating_wholeNumber 31 = .ok (.if_icmp .ne 18, 3) := by decide +kernel
theorem dFloating_wholeNumber_34 : decode cFloating_wholeNumber 34 = .ok (.aload_n 1, 1) := by decide +kernel
theorem dFloating_wholeNumber_35 : decode cFloating_wholeNumber 35 = .ok (.iload 5, 2) := by decide +kernel
theorem dFloating_wholeNumber_37 : decode cFloating_wholeNumber 37 = .ok (.lload 6, 2) := by decide +kernel
theorem dFloating_wholeNumber_39 : decode cFloating_wholeNumber 39 = .ok (.iload 4, 2) := by decide +kernel
theorem dFloating_wholeNumber_41 : decode cFloating_wholeNumber 41 = .ok (.invokestatic 76, 3) := by decide +kernel
theorem dFloating_wholeNumber_44 : decode cFloating_wholeNumber 44 = .ok (.iconst 0, 1) := by decide +kernel
theorem dFloating_wholeNumber_45 : decode cFloating_wholeNumber 45 = .ok (.invokevirtual 80, 3) := by decide +kernel
theorem dFloating_wholeNumber_48 : decode cFloating_wholeNumber 48 = .ok (.lreturn, 1) := by decide +kernel
theorem dFloating_wholeNumber_49 : decode cFloating_wholeNumber 49 = .ok (.iload 4, 2) := by decide +kernel
theorem dFloating_wholeNumber_51 : decode cFloating_wholeNumber 51 = .ok (.bipush 63, 2) := by decide +kernel
theorem dFloating_wholeNumber_53 : decode cFloating_wholeNumber 53 = .ok (.invokestatic 84, 3) := by decide +kernel
theorem dFloating_wholeNumber_56 : decode cFloating_wholeNumber 56 = .ok (.istore 8, 2) := by decide +kernel
theorem dFloating_wholeNumber_58 : decode cFloating_wholeNumber 58 = .ok (.lload 6, 2) := by decide +kernel
theorem dFloating_wholeNumber_60 : decode cFloating_wholeNumber 60 = .ok (.iload 8, 2) := by decide +kernel
theorem dFloating_wholeNumber_62 : decode cFloating_wholeNumber 62 = .ok (.lushr, 1) := by decide +kernel
theorem dFloating_wholeNumber_63 : decode cFloating_wholeNumber 63 = .ok (.lstore 9, 2) := by decide +kernel
theorem dFloating_wholeNumber_65 : decode cFloating_wholeNumber 65 = .ok (.lload 9, 2) := by decide +kernel
theorem dFloating_wholeNumber_67 : decode cFloating_wholeNumber 67 = .ok (.iload 8, 2) := by decide +kernel
theorem dFloating_wholeNumber_69 : decode cFloating_wholeNumber 69 = .ok (.lshl, 1) := by decide +kernel
theorem dFloating_wholeNumber_70 : decode cFloating_wholeNumber 70 = .ok (.lload 6, 2) := by decide +kernel
theorem dFloating_wholeNumber_72 : decode cFloating_wholeNumber 72 = .ok (.lcmp, 1) := by decide +kernel
theorem dFloating_wholeNumber_73 : decode cFloating_wholeNumber 73 = .ok (.ifCond .eq 7, 3) := by decide +kernel
theorem dFloating_wholeNumber_76 : decode cFloating_wholeNumber 76 = .ok (.iconst 1, 1) := by decide +kernel
theorem dFloating_wholeNumber_77 : decode cFloating_wholeNumber 77 = .ok (.goto 4, 3) := by decide +kernel
theorem dFloating_wholeNumber_80 : decode cFloating_wholeNumber 80 = .ok (.iconst 0, 1) := by decide +kernel
theorem dFloating_wholeNumber_81 : decode cFloating_wholeNumber 81 = .ok (.istore 11, 2) := by decide +kernel
theorem dFloating_wholeNumber_83 : decode cFloating_wholeNumber 83 = .ok (.iload_n 0, 1) := by decide +kernel
theorem dFloating_wholeNumber_84 : decode cFloating_wholeNumber 84 = .ok (.iconst 2, 1) := by decide +kernel
theorem dFloating_wholeNumber_85 : decode cFloating_wholeNumber 85 = .ok (.if_icmp .ne 8, 3) := by decide +kernel
theorem dFloating_wholeNumber_88 : decode cFloating_wholeNumber 88 = .ok (.iload 5, 2) := by decide +kernel
theorem dFloating_wholeNumber_90 : decode cFloating_wholeNumber 90 = .ok (.ifCond .eq 13, 3) := by decide +kernel
theorem dFloating_wholeNumber_93 : decode cFloating_wholeNumber 93 = .ok (.iload_n 0, 1) := by decide +kernel
theorem dFloating_wholeNumber_94 : decode cFloating_wholeNumber 94 = .ok (.iconst 3, 1) := by decide +kernel
theorem dFloating_wholeNumber_95 : decode cFloating_wholeNumber 95 = .ok (.if_icmp .ne 12, 3) := by decide +kernel
theorem dFloating_wholeNumber_98 : decode cFloating_wholeNumber 98 = .ok (.iload 5, 2) := by decide +kernel
theorem dFloating_wholeNumber_100 : decode cFloating_wholeNumber 100 = .ok (.ifCond .eq 7, 3) := by decide +kernel
theorem dFloating_wholeNumber_103 : decode cFloating_wholeNumber 103 = .ok (.iconst 1, 1) := by decide +kernel
theorem dFloating_wholeNumber_104 : decode cFloating_wholeNumber 104 = .ok (.goto 4, 3) := by decide +kernel
theorem dFloating_wholeNumber_107 : decode cFloating_wholeNumber 107 = .ok (.iconst 0, 1) := by decide +kernel
theorem dFloating_wholeNumber_108 : decode cFloating_wholeNumber 108 = .ok (.istore 12, 2) := by decide +kernel
theorem dFloating_wholeNumber_110 : decode cFloating_wholeNumber 110 = .ok (.aload_n 1, 1) := by decide +kernel
theorem dFloating_wholeNumber_111 : decode cFloating_wholeNumber 111 = .ok (.iload 5, 2) := by decide +kernel
theorem dFloating_wholeNumber_113 : decode cFloating_wholeNumber 113 = .ok (.iload 11, 2) := by decide +kernel
theorem dFloating_wholeNumber_115 : decode cFloating_wholeNumber 115 = .ok (.ifCond .eq 15, 3) := by decide +kernel
theorem dFloating_wholeNumber_118 : decode cFloating_wholeNumber 118 = .ok (.iload 12, 2) := by decide +kernel
theorem dFloating_wholeNumber_120 : decode cFloating_wholeNumber 120 = .ok (.ifCond .eq 10, 3) := by decide +kernel
theorem dFloating_wholeNumber_123 : decode cFloating_wholeNumber 123 = .ok (.lload 9, 2) := by decide +kernel
theorem dFloating_wholeNumber_125 : decode cFloating_wholeNumber 125 = .ok (.lconst 1, 1) := by decide +kernel
theorem dFloating_wholeNumber_126 : decode cFloating_wholeNumber 126 = .ok (.ladd, 1) := by decide +kernel
theorem dFloating_wholeNumber_127 : decode cFloating_wholeNumber 127 = .ok (.goto 5, 3) := by decide +kernel
theorem dFloating_wholeNumber_130 : decode cFloating_wholeNumber 130 = .ok (.lload 9, 2) := by decide +kernel
theorem dFloating_wholeNumber_132 : decode cFloating_wholeNumber 132 = .ok (.iconst 0, 1) := by decide +kernel
theorem dFloating_wholeNumber_133 : decode cFloating_wholeNumber 133 = .ok (.invokevirtual 80, 3) := by decide +kernel
theorem dFloating_wholeNumber_136 : decode cFloating_wholeNumber 136 = .ok (.lreturn, 1) := by decide +kernel
theorem dFormat_isZero_0 : decode cFormat_isZero 0 = .ok (.lload_n 1, 1) := by decide +kernel
theorem dFormat_isZero_1 : decode cFormat_isZero 1 = .ok (.aload_n 0, 1) := by decide +kernel
theorem dFormat_isZero_2 : decode cFormat_isZero 2 = .ok (.getfield 41, 3) := by decide +kernel
theorem dFormat_isZero_5 : decode cFormat_isZero 5 = .ok (.ldc2_w 56, 3) := by decide +kernel
theorem dFormat_isZero_8 : decode cFormat_isZero 8 = .ok (.lxor, 1) := by decide +kernel
theorem dFormat_isZero_9 : decode cFormat_isZero 9 = .ok (.land, 1) := by decide +kernel
theorem dFormat_isZero_10 : decode cFormat_isZero 10 = .ok (.lconst 0, 1) := by decide +kernel
theorem dFormat_isZero_11 : decode cFormat_isZero 11 = .ok (.lcmp, 1) := by decide +kernel
theorem dFormat_isZero_12 : decode cFormat_isZero 12 = .ok (.ifCond .ne 7, 3) := by decide +kernel
theorem dFormat_isZero_15 : decode cFormat_isZero 15 = .ok (.iconst 1, 1) := by decide +kernel
theorem dFormat_isZero_16 : decode cFormat_isZero 16 = .ok (.goto 4, 3) := by decide +kernel
theorem dFormat_isZero_19 : decode cFormat_isZero 19 = .ok (.iconst 0, 1) := by decide +kernel
theorem dFormat_isZero_20 : decode cFormat_isZero 20 = .ok (.ireturn, 1) := by decide +kernel
theorem dFloating_lift_0 : decode cFloating_lift 0 = .ok (.bipush 62, 2) := by decide +kernel
theorem dFloating_lift_2 : decode cFloating_lift 2 = .ok (.lload_n 0, 1) := by decide +kernel
theorem dFloating_lift_3 : decode cFloating_lift 3 = .ok (.invokestatic 120, 3) := by decide +kernel
theorem dFloating_lift_6 : decode cFloating_lift 6 = .ok (.isub, 1) := by decide +kernel
theorem dFloating_lift_7 : decode cFloating_lift 7 = .ok (.ireturn, 1) := by decide +kernel
theorem dFloating_root_0 : decode cFloating_root 0 = .ok (.aload_n 0, 1) := by decide +kernel
theorem dFloating_root_1 : decode cFloating_root 1 = .ok (.lload_n 1, 1) := by decide +kernel
theorem dFloating_root_2 : decode cFloating_root 2 = .ok (.invokevirtual 90, 3) := by decide +kernel
theorem dFloating_root_5 : decode cFloating_root 5 = .ok (.ifCond .eq 5, 3) := by decide +kernel
theorem dFloating_root_8 : decode cFloating_root 8 = .ok (.lload_n 1, 1) := by decide +kernel
theorem dFloating_root_9 : decode cFloating_root 9 = .ok (.lreturn, 1) := by decide +kernel
theorem dFloating_root_10 : decode cFloating_root 10 = .ok (.aload_n 0, 1) := by decide +kernel
theorem dFloating_root_11 : decode cFloating_root 11 = .ok (.lload_n 1, 1) := by decide +kernel
theorem dFloating_root_12 : decode cFloating_root 12 = .ok (.invokevirtual 33, 3) := by decide +kernel
theorem dFloating_root_15 : decode cFloating_root 15 = .ok (.ifCond .eq 8, 3) := by decide +kernel
theorem dFloating_root_18 : decode cFloating_root 18 = .ok (.aload_n 0, 1) := by decide +kernel
theorem dFloating_root_19 : decode cFloating_root 19 = .ok (.getfield 40, 3) := by decide +kernel
theorem dFloating_root_22 : decode cFloating_root 22 = .ok (.lreturn, 1) := by decide +kernel
theorem dFloating_root_23 : decode cFloating_root 23 = .ok (.aload_n 0, 1) := by decide +kernel
theorem dFloating_root_24 : decode cFloating_root 24 = .ok (.lload_n 1, 1) := by decide +kernel
theorem dFloating_root_25 : decode cFloating_root 25 = .ok (.invokevirtual 93, 3) := by decide +kernel
theorem dFloating_root_28 : decode cFloating_root 28 = .ok (.ifCond .eq 5, 3) := by decide +kernel
theorem dFloating_root_31 : decode cFloating_root 31 = .ok (.lload_n 1, 1) := by decide +kernel
theorem dFloating_root_32 : decode cFloating_root 32 = .ok (.lreturn, 1) := by decide +kernel
theorem dFloating_root_33 : decode cFloating_root 33 = .ok (.aload_n 0, 1) := by decide +kernel
theorem dFloating_root_34 : decode cFloating_root 34 = .ok (.lload_n 1, 1) := by decide +kernel
theorem dFloating_root_35 : decode cFloating_root 35 = .ok (.invokevirtual 73, 3) := by decide +kernel
theorem dFloating_root_38 : decode cFloating_root 38 = .ok (.invokestatic 96, 3) := by decide +kernel
theorem dFloating_root_41 : decode cFloating_root 41 = .ok (.istore_n 3, 1) := by decide +kernel
theorem dFloating_root_42 : decode cFloating_root 42 = .ok (.iload_n 3, 1) := by decide +kernel
theorem dFloating_root_43 : decode cFloating_root 43 = .ok (.aload_n 0, 1) := by decide +kernel
theorem dFloating_root_44 : decode cFloating_root 44 = .ok (.lload_n 1, 1) := by decide +kernel
theorem dFloating_root_45 : decode cFloating_root 45 = .ok (.invokevirtual 69, 3) := by decide +kernel
theorem dFloating_root_48 : decode cFloating_root 48 = .ok (.iload_n 3, 1) := by decide +kernel
theorem dFloating_root_49 : decode cFloating_root 49 = .ok (.isub, 1) := by decide +kernel
theorem dFloating_root_50 : decode cFloating_root 50 = .ok (.iconst 1, 1) := by decide +kernel
theorem dFloating_root_51 : decode cFloating_root 51 = .ok (.iand, 1) := by decide +kernel
theorem dFloating_root_52 : decode cFloating_root 52 = .ok (.isub, 1) := by decide +kernel
theorem dFloating_root_53 : decode cFloating_root 53 = .ok (.istore_n 3, 1) := by decide +kernel
theorem dFloating_root_54 : decode cFloating_root 54 = .ok (.aload_n 0, 1) := by decide +kernel
theorem dFloating_root_55 : decode cFloating_root 55 = .ok (.lload_n 1, 1) := by decide +kernel
theorem dFloating_root_56 : decode cFloating_root 56 = .ok (.invokevirtual 73, 3) := by decide +kernel
theorem dFloating_root_59 : decode cFloating_root 59 = .ok (.iload_n 3, 1) := by decide +kernel
theorem dFloating_root_60 : decode cFloating_root 60 = .ok (.lshl, 1) := by decide +kernel
theorem dFloating_root_61 : decode cFloating_root 61 = .ok (.lstore 4, 2) := by decide +kernel
theorem dFloating_root_63 : decode cFloating_root 63 = .ok (.lconst 0, 1) := by decide +kernel
theorem dFloating_root_64 : decode cFloating_root 64 = .ok (.lstore 6, 2) := by decide +kernel
theorem dFloating_root_66 : decode cFloating_root 66 = .ok (.lconst 0, 1) := by decide +kernel
theorem dFloating_root_67 : decode cFloating_root 67 = .ok (.lstore 8, 2) := by decide +kernel
theorem dFloating_root_69 : decode cFloating_root 69 = .ok (.iconst 0, 1) := by decide +kernel
theorem dFloating_root_70 : decode cFloating_root 70 = .ok (.istore 10, 2) := by decide +kernel
theorem dFloating_root_72 : decode cFloating_root 72 = .ok (.iload 10, 2) := by decide +kernel
theorem dFloating_root_74 : decode cFloating_root 74 = .ok (.bipush 57, 2) := by decide +kernel
theorem dFloating_root_76 : decode cFloating_root 76 = .ok (.if_icmp .ge 66, 3) := by decide +kernel
theorem dFloating_root_79 : decode cFloating_root 79 = .ok (.lload 8, 2) := by decide +kernel
theorem dFloating_root_81 : decode cFloating_root 81 = .ok (.iconst 2, 1) := by decide +kernel
theorem dFloating_root_82 : decode cFloating_root 82 = .ok (.lshl, 1) := by decide +kernel
theorem dFloating_root_83 : decode cFloating_root 83 = .ok (.lload 4, 2) := by decide +kernel
theorem dFloating_root_85 : decode cFloating_root 85 = .ok (.bipush 60, 2) := by decide +kernel
theorem dFloating_root_87 : decode cFloating_root 87 = .ok (.lushr, 1) := by decide +kernel
theorem dFloating_root_88 : decode cFloating_root 88 = .ok (.ldc2_w 99, 3) := by decide +kernel
theorem dFloating_root_91 : decode cFloating_root 91 = .ok (.land, 1) := by decide +kernel
theorem dFloating_root_92 : decode cFloating_root 92 = .ok (.lor, 1) := by decide +kernel
theorem dFloating_root_93 : decode cFloating_root 93 = .ok (.lstore 8, 2) := by decide +kernel
theorem dFloating_root_95 : decode cFloating_root 95 = .ok (.lload 4, 2) := by decide +kernel
theorem dFloating_root_97 : decode cFloating_root 97 = .ok (.iconst 2, 1) := by decide +kernel
theorem dFloating_root_98 : decode cFloating_root 98 = .ok (.lshl, 1) := by decide +kernel
theorem dFloating_root_99 : decode cFloating_root 99 = .ok (.lstore 4, 2) := by decide +kernel
theorem dFloating_root_101 : decode cFloating_root 101 = .ok (.lload 6, 2) := by decide +kernel
theorem dFloating_root_103 : decode cFloating_root 103 = .ok (.iconst 2, 1) := by decide +kernel
theorem dFloating_root_104 : decode cFloating_root 104 = .ok (.lshl, 1) := by decide +kernel
theorem dFloating_root_105 : decode cFloating_root 105 = .ok (.lconst 1, 1) := by decide +kernel
theorem dFloating_root_106 : decode cFloating_root 106 = .ok (.lor, 1) := by decide +kernel
theorem dFloating_root_107 : decode cFloating_root 107 = .ok (.lstore 11, 2) := by decide +kernel
theorem dFloating_root_109 : decode cFloating_root 109 = .ok (.lload 6, 2) := by decide +kernel
theorem dFloating_root_111 : decode cFloating_root 111 = .ok (.iconst 1, 1) := by decide +kernel
theorem dFloating_root_112 : decode cFloating_root 112 = .ok (.lshl, 1) := by decide +kernel
theorem dFloating_root_113 : decode cFloating_root 113 = .ok (.lstore 6, 2) := by decide +kernel
theorem dFloating_root_115 : decode cFloating_root 115 = .ok (.lload 8, 2) := by decide +kernel
theorem dFloating_root_117 : decode cFloating_root 117 = .ok (.lload 11, 2) := by decide +kernel
theorem dFloating_root_119 : decode cFloating_root 119 = .ok (.lcmp, 1) := by decide +kernel
theorem dFloating_root_120 : decode cFloating_root 120 = .ok (.ifCond .lt 16, 3) := by decide +kernel
theorem dFloating_root_123 : decode cFloating_root 123 = .ok (.lload 8, 2) := by decide +kernel
theorem dFloating_root_125 : decode cFloating_root 125 = .ok (.lload 11, 2) := by decide +kernel
theorem dFloating_root_127 : decode cFloating_root 127 = .ok (.lsub, 1) := by decide +kernel
theorem dFloating_root_128 : decode cFloating_root 128 = .ok (.lstore 8, 2) := by decide +kernel
theorem dFloating_root_130 : decode cFloating_root 130 = .ok (.lload 6, 2) := by decide +kernel
theorem dFloating_root_132 : decode cFloating_root 132 = .ok (.lconst 1, 1) := by decide +kernel
theorem dFloating_root_133 : decode cFloating_root 133 = .ok (.lor, 1) := by decide +kernel
theorem dFloating_root_134 : decode cFloating_root 134 = .ok (.lstore 6, 2) := by decide +kernel
theorem dFloating_root_136 : decode cFloating_root 136 = .ok (.iinc 10 1, 3) := by decide +kernel
theorem dFloating_root_139 : decode cFloating_root 139 = .ok (.goto (-67), 3) := by decide +kernel
theorem dFloating_root_142 : decode cFloating_root 142 = .ok (.aload_n 0, 1) := by decide +kernel
theorem dFloating_root_143 : decode cFloating_root 143 = .ok (.lload_n 1, 1) := by decide +kernel
theorem dFloating_root_144 : decode cFloating_root 144 = .ok (.invokevirtual 69, 3) := by decide +kernel
theorem dFloating_root_147 : decode cFloating_root 147 = .ok (.iload_n 3, 1) := by decide +kernel
theorem dFloating_root_148 : decode cFloating_root 148 = .ok (.isub, 1) := by decide +kernel
theorem dFloating_root_149 : decode cFloating_root 149 = .ok (.iconst 2, 1) := by decide +kernel
theorem dFloating_root_150 : decode cFloating_root 150 = .ok (.idiv, 1) := by decide +kernel
theorem dFloating_root_151 : decode cFloating_root 151 = .ok (.bipush 31, 2) := by decide +kernel
theorem dFloating_root_153 : decode cFloating_root 153 = .ok (.iadd, 1) := by decide +kernel
theorem dFloating_root_154 : decode cFloating_root 154 = .ok (.bipush 57, 2) := by decide +kernel
theorem dFloating_root_156 : decode cFloating_root 156 = .ok (.isub, 1) := by decide +kernel
theorem dFloating_root_157 : decode cFloating_root 157 = .ok (.istore 10, 2) := by decide +kernel
theorem dFloating_root_159 : decode cFloating_root 159 = .ok (.aload_n 0, 1) := by decide +kernel
theorem dFloating_root_160 : decode cFloating_root 160 = .ok (.iconst 0, 1) := by decide +kernel
theorem dFloating_root_161 : decode cFloating_root 161 = .ok (.lload 8, 2) := by decide +kernel
theorem dFloating_root_163 : decode cFloating_root 163 = .ok (.lconst 0, 1) := by decide +kernel
theorem dFloating_root_164 : decode cFloating_root 164 = .ok (.lcmp, 1) := by decide +kernel
theorem dFloating_root_165 : decode cFloating_root 165 = .ok (.ifCond .ne 8, 3) := by decide +kernel
theorem dFloating_root_168 : decode cFloating_root 168 = .ok (.lload 6, 2) := by decide +kernel
theorem dFloating_root_170 : decode cFloating_root 170 = .ok (.goto 7, 3) := by decide +kernel
theorem dFloating_root_173 : decode cFloating_root 173 = .ok (.lload 6, 2) := by decide +kernel
theorem dFloating_root_175 : decode cFloating_root 175 = .ok (.lconst 1, 1) := by decide +kernel
theorem dFloating_root_176 : decode cFloating_root 176 = .ok (.lor, 1) := by decide +kernel
theorem dFloating_root_177 : decode cFloating_root 177 = .ok (.iload 10, 2) := by decide +kernel
theorem dFloating_root_179 : decode cFloating_root 179 = .ok (.invokevirtual 80, 3) := by decide +kernel
theorem dFloating_root_182 : decode cFloating_root 182 = .ok (.lreturn, 1) := by decide +kernel
theorem dFloating_sumWithInfinite_0 : decode cFloating_sumWithInfinite 0 = .ok (.aload_n 0, 1) := by decide +kernel
theorem dFloating_sumWithInfinite_1 : decode cFloating_sumWithInfinite 1 = .ok (.lload_n 1, 1) := by decide +kernel
theorem dFloating_sumWithInfinite_2 : decode cFloating_sumWithInfinite 2 = .ok (.invokevirtual 93, 3) := by decide +kernel
theorem dFloating_sumWithInfinite_5 : decode cFloating_sumWithInfinite 5 = .ok (.ifCond .eq 15, 3) := by decide +kernel
theorem dFloating_sumWithInfinite_8 : decode cFloating_sumWithInfinite 8 = .ok (.aload_n 0, 1) := by decide +kernel
theorem dFloating_sumWithInfinite_9 : decode cFloating_sumWithInfinite 9 = .ok (.lload_n 3, 1) := by decide +kernel
theorem dFloating_sumWithInfinite_10 : decode cFloating_sumWithInfinite 10 = .ok (.invokevirtual 93, 3) := by decide +kernel
theorem dFloating_sumWithInfinite_13 : decode cFloating_sumWithInfinite 13 = .ok (.ifCond .eq 7, 3) := by decide +kernel
theorem dFloating_sumWithInfinite_16 : decode cFloating_sumWithInfinite 16 = .ok (.iconst 1, 1) := by decide +kernel
theorem dFloating_sumWithInfinite_17 : decode cFloating_sumWithInfinite 17 = .ok (.goto 4, 3) := by decide +kernel
theorem dFloating_sumWithInfinite_20 : decode cFloating_sumWithInfinite 20 = .ok (.iconst 0, 1) := by decide +kernel
theorem dFloating_sumWithInfinite_21 : decode cFloating_sumWithInfinite 21 = .ok (.istore 5, 2) := by decide +kernel
theorem dFloating_sumWithInfinite_23 : decode cFloating_sumWithInfinite 23 = .ok (.iload 5, 2) := by decide +kernel
theorem dFloating_sumWithInfinite_25 : decode cFloating_sumWithInfinite 25 = .ok (.ifCond .eq 21, 3) := by decide +kernel
theorem dFloating_sumWithInfinite_28 : decode cFloating_sumWithInfinite 28 = .ok (.aload_n 0, 1) := by decide +kernel
theorem dFloating_sumWithInfinite_29 : decode cFloating_sumWithInfinite 29 = .ok (.lload_n 1, 1) := by decide +kernel
theorem dFloating_sumWithInfinite_30 : decode cFloating_sumWithInfinite 30 = .ok (.invokevirtual 33, 3) := by decide +kernel
theorem dFloating_sumWithInfinite_33 : decode cFloating_sumWithInfinite 33 = .ok (.aload_n 0, 1) := by decide +kernel
theorem dFloating_sumWithInfinite_34 : decode cFloating_sumWithInfinite 34 = .ok (.lload_n 3, 1) := by decide +kernel
theorem dFloating_sumWithInfinite_35 : decode cFloating_sumWithInfinite 35 = .ok (.invokevirtual 33, 3) := by decide +kernel
theorem dFloating_sumWithInfinite_38 : decode cFloating_sumWithInfinite 38 = .ok (.if_icmp .eq 8, 3) := by decide +kernel
theorem dFloating_sumWithInfinite_41 : decode cFloating_sumWithInfinite 41 = .ok (.aload_n 0, 1) := by decide +kernel
theorem dFloating_sumWithInfinite_42 : decode cFloating_sumWithInfinite 42 = .ok (.getfield 40, 3) := by decide +kernel
theorem dFloating_sumWithInfinite_45 : decode cFloating_sumWithInfinite 45 = .ok (.lreturn, 1) := by decide +kernel
theorem dFloating_sumWithInfinite_46 : decode cFloating_sumWithInfinite 46 = .ok (.aload_n 0, 1) := by decide +kernel
theorem dFloating_sumWithInfinite_47 : decode cFloating_sumWithInfinite 47 = .ok (.lload_n 1, 1) := by decide +kernel
theorem dFloating_sumWithInfinite_48 : decode cFloating_sumWithInfinite 48 = .ok (.invokevirtual 93, 3) := by decide +kernel
theorem dFloating_sumWithInfinite_51 : decode cFloating_sumWithInfinite 51 = .ok (.ifCond .eq 7, 3) := by decide +kernel
theorem dFloating_sumWithInfinite_54 : decode cFloating_sumWithInfinite 54 = .ok (.lload_n 1, 1) := by decide +kernel
theorem dFloating_sumWithInfinite_55 : decode cFloating_sumWithInfinite 55 = .ok (.goto 4, 3) := by decide +kernel
theorem dFloating_sumWithInfinite_58 : decode cFloating_sumWithInfinite 58 = .ok (.lload_n 3, 1) := by decide +kernel
theorem dFloating_sumWithInfinite_59 : decode cFloating_sumWithInfinite 59 = .ok (.lreturn, 1) := by decide +kernel
theorem dFloating_shiftedWithTrace_0 : decode cFloating_shiftedWithTrace 0 = .ok (.iload_n 2, 1) := by decide +kernel
theorem dFloating_shiftedWithTrace_1 : decode cFloating_shiftedWithTrace 1 = .ok (.bipush 63, 2) := by decide +kernel
theorem dFloating_shiftedWithTrace_3 : decode cFloating_shiftedWithTrace 3 = .ok (.if_icmp .le 15, 3) := by decide +kernel
theorem dFloating_shiftedWithTrace_6 : decode cFloating_shiftedWithTrace 6 = .ok (.lload_n 0, 1) := by decide +kernel
theorem dFloating_shiftedWithTrace_7 : decode cFloating_shiftedWithTrace 7 = .ok (.lconst 0, 1) := by decide +kernel
theorem dFloating_shiftedWithTrace_8 : decode cFloating_shiftedWithTrace 8 = .ok (.lcmp, 1) := by decide +kernel
theorem dFloating_shiftedWithTrace_9 : decode cFloating_shiftedWithTrace 9 = .ok (.ifCond .ne 7, 3) := by decide +kernel
theorem dFloating_shiftedWithTrace_12 : decode cFloating_shiftedWithTrace 12 = .ok (.lconst 0, 1) := by decide +kernel
theorem dFloating_shiftedWithTrace_13 : decode cFloating_shiftedWithTrace 13 = .ok (.goto 4, 3) := by decide +kernel
theorem dFloating_shiftedWithTrace_16 : decode cFloating_shiftedWithTrace 16 = .ok (.lconst 1, 1) := by decide +kernel
theorem dFloating_shiftedWithTrace_17 : decode cFloating_shiftedWithTrace 17 = .ok (.lreturn, 1) := by decide +kernel
theorem dFloating_shiftedWithTrace_18 : decode cFloating_shiftedWithTrace 18 = .ok (.lload_n 0, 1) := by decide +kernel
theorem dFloating_shiftedWithTrace_19 : decode cFloating_shiftedWithTrace 19 = .ok (.iload_n 2, 1) := by decide +kernel
theorem dFloating_shiftedWithTrace_20 : decode cFloating_shiftedWithTrace 20 = .ok (.lushr, 1) := by decide +kernel
theorem dFloating_shiftedWithTrace_21 : decode cFloating_shiftedWithTrace 21 = .ok (.lstore_n 3, 1) := by decide +kernel
theorem dFloating_shiftedWithTrace_22 : decode cFloating_shiftedWithTrace 22 = .ok (.lload_n 3, 1) := by decide +kernel
theorem dFloating_shiftedWithTrace_23 : decode cFloating_shiftedWithTrace 23 = .ok (.iload_n 2, 1) := by decide +kernel
theorem dFloating_shiftedWithTrace_24 : decode cFloating_shiftedWithTrace 24 = .ok (.lshl, 1) := by decide +kernel
theorem dFloating_shiftedWithTrace_25 : decode cFloating_shiftedWithTrace 25 = .ok (.lload_n 0, 1) := by decide +kernel
theorem dFloating_shiftedWithTrace_26 : decode cFloating_shiftedWithTrace 26 = .ok (.lcmp, 1) := by decide +kernel
theorem dFloating_shiftedWithTrace_27 : decode cFloating_shiftedWithTrace 27 = .ok (.ifCond .ne 7, 3) := by decide +kernel
theorem dFloating_shiftedWithTrace_30 : decode cFloating_shiftedWithTrace 30 = .ok (.lload_n 3, 1) := by decide +kernel
theorem dFloating_shiftedWithTrace_31 : decode cFloating_shiftedWithTrace 31 = .ok (.goto 6, 3) := by decide +kernel
theorem dFloating_shiftedWithTrace_34 : decode cFloating_shiftedWithTrace 34 = .ok (.lload_n 3, 1) := by decide +kernel
theorem dFloating_shiftedWithTrace_35 : decode cFloating_shiftedWithTrace 35 = .ok (.lconst 1, 1) := by decide +kernel
theorem dFloating_shiftedWithTrace_36 : decode cFloating_shiftedWithTrace 36 = .ok (.lor, 1) := by decide +kernel
theorem dFloating_shiftedWithTrace_37 : decode cFloating_shiftedWithTrace 37 = .ok (.lreturn, 1) := by decide +kernel
theorem dFloating_sum_0 : decode cFloating_sum 0 = .ok (.aload_n 0, 1) := by decide +kernel
theorem dFloating_sum_1 : decode cFloating_sum 1 = .ok (.lload_n 1, 1) := by decide +kernel
theorem dFloating_sum_2 : decode cFloating_sum 2 = .ok (.invokevirtual 93, 3) := by decide +kernel
theorem dFloating_sum_5 : decode cFloating_sum 5 = .ok (.ifCond .ne 11, 3) := by decide +kernel
theorem dFloating_sum_8 : decode cFloating_sum 8 = .ok (.aload_n 0, 1) := by decide +kernel
theorem dFloating_sum_9 : decode cFloating_sum 9 = .ok (.lload_n 3, 1) := by decide +kernel
theorem dFloating_sum_10 : decode cFloating_sum 10 = .ok (.invokevirtual 93, 3) := by decide +kernel
theorem dFloating_sum_13 : decode cFloating_sum 13 = .ok (.ifCond .eq 10, 3) := by decide +kernel
theorem dFloating_sum_16 : decode cFloating_sum 16 = .ok (.aload_n 0, 1) := by decide +kernel
theorem dFloating_sum_17 : decode cFloating_sum 17 = .ok (.lload_n 1, 1) := by decide +kernel
theorem dFloating_sum_18 : decode cFloating_sum 18 = .ok (.lload_n 3, 1) := by decide +kernel
theorem dFloating_sum_19 : decode cFloating_sum 19 = .ok (.invokestatic 101, 3) := by decide +kernel
theorem dFloating_sum_22 : decode cFloating_sum 22 = .ok (.lreturn, 1) := by decide +kernel
theorem dFloating_sum_23 : decode cFloating_sum 23 = .ok (.aload_n 0, 1) := by decide +kernel
theorem dFloating_sum_24 : decode cFloating_sum 24 = .ok (.lload_n 1, 1) := by decide +kernel
theorem dFloating_sum_25 : decode cFloating_sum 25 = .ok (.invokevirtual 25, 3) := by decide +kernel
theorem dFloating_sum_28 : decode cFloating_sum 28 = .ok (.aload_n 0, 1) := by decide +kernel
theorem dFloating_sum_29 : decode cFloating_sum 29 = .ok (.lload_n 3, 1) := by decide +kernel
theorem dFloating_sum_30 : decode cFloating_sum 30 = .ok (.invokevirtual 25, 3) := by decide +kernel
theorem dFloating_sum_33 : decode cFloating_sum 33 = .ok (.lcmp, 1) := by decide +kernel
theorem dFloating_sum_34 : decode cFloating_sum 34 = .ok (.ifCond .lt 7, 3) := by decide +kernel
theorem dFloating_sum_37 : decode cFloating_sum 37 = .ok (.iconst 1, 1) := by decide +kernel
theorem dFloating_sum_38 : decode cFloating_sum 38 = .ok (.goto 4, 3) := by decide +kernel
theorem dFloating_sum_41 : decode cFloating_sum 41 = .ok (.iconst 0, 1) := by decide +kernel
theorem dFloating_sum_42 : decode cFloating_sum 42 = .ok (.istore 5, 2) := by decide +kernel
theorem dFloating_sum_44 : decode cFloating_sum 44 = .ok (.iload 5, 2) := by decide +kernel
theorem dFloating_sum_46 : decode cFloating_sum 46 = .ok (.ifCond .eq 7, 3) := by decide +kernel
theorem dFloating_sum_49 : decode cFloating_sum 49 = .ok (.lload_n 1, 1) := by decide +kernel
theorem dFloating_sum_50 : decode cFloating_sum 50 = .ok (.goto 4, 3) := by decide +kernel
theorem dFloating_sum_53 : decode cFloating_sum 53 = .ok (.lload_n 3, 1) := by decide +kernel
theorem dFloating_sum_54 : decode cFloating_sum 54 = .ok (.lstore 6, 2) := by decide +kernel
theorem dFloating_sum_56 : decode cFloating_sum 56 = .ok (.iload 5, 2) := by decide +kernel
theorem dFloating_sum_58 : decode cFloating_sum 58 = .ok (.ifCond .eq 7, 3) := by decide +kernel
theorem dFloating_sum_61 : decode cFloating_sum 61 = .ok (.lload_n 3, 1) := by decide +kernel
theorem dFloating_sum_62 : decode cFloating_sum 62 = .ok (.goto 4, 3) := by decide +kernel
theorem dFloating_sum_65 : decode cFloating_sum 65 = .ok (.lload_n 1, 1) := by decide +kernel
theorem dFloating_sum_66 : decode cFloating_sum 66 = .ok (.lstore 8, 2) := by decide +kernel
theorem dFloating_sum_68 : decode cFloating_sum 68 = .ok (.bipush 62, 2) := by decide +kernel
theorem dFloating_sum_70 : decode cFloating_sum 70 = .ok (.aload_n 0, 1) := by decide +kernel
theorem dFloating_sum_71 : decode cFloating_sum 71 = .ok (.getfield 104, 3) := by decide +kernel
theorem dFloating_sum_74 : decode cFloating_sum 74 = .ok (.isub, 1) := by decide +kernel
theorem dFloating_sum_75 : decode cFloating_sum 75 = .ok (.istore 10, 2) := by decide +kernel
theorem dFloating_sum_77 : decode cFloating_sum 77 = .ok (.aload_n 0, 1) := by decide +kernel
theorem dFloating_sum_78 : decode cFloating_sum 78 = .ok (.lload 6, 2) := by decide +kernel
theorem dFloating_sum_80 : decode cFloating_sum 80 = .ok (.invokevirtual 73, 3) := by decide +kernel
theorem dFloating_sum_83 : decode cFloating_sum 83 = .ok (.iload 10, 2) := by decide +kernel
theorem dFloating_sum_85 : decode cFloating_sum 85 = .ok (.lshl, 1) := by decide +kernel
theorem dFloating_sum_86 : decode cFloating_sum 86 = .ok (.lstore 11, 2) := by decide +kernel
theorem dFloating_sum_88 : decode cFloating_sum 88 = .ok (.aload_n 0, 1) := by decide +kernel
theorem dFloating_sum_89 : decode cFloating_sum 89 = .ok (.lload 8, 2) := by decide +kernel
theorem dFloating_sum_91 : decode cFloating_sum 91 = .ok (.invokevirtual 73, 3) := by decide +kernel
theorem dFloating_sum_94 : decode cFloating_sum 94 = .ok (.iload 10, 2) := by decide +kernel
theorem dFloating_sum_96 : decode cFloating_sum 96 = .ok (.lshl, 1) := by decide +kernel
theorem dFloating_sum_97 : decode cFloating_sum 97 = .ok (.aload_n 0, 1) := by decide +kernel
theorem dFloating_sum_98 : decode cFloating_sum 98 = .ok (.lload 6, 2) := by decide +kernel
theorem dFloating_sum_100 : decode cFloating_sum 100 = .ok (.invokevirtual 69, 3) := by decide +kernel
theorem dFloating_sum_103 : decode cFloating_sum 103 = .ok (.aload_n 0, 1) := by decide +kernel
theorem dFloating_sum_104 : decode cFloating_sum 104 = .ok (.lload 8, 2) := by decide +kernel
theorem dFloating_sum_106 : decode cFloating_sum 106 = .ok (.invokevirtual 69, 3) := by decide +kernel
theorem dFloating_sum_109 : decode cFloating_sum 109 = .ok (.isub, 1) := by decide +kernel
theorem dFloating_sum_110 : decode cFloating_sum 110 = .ok (.invokestatic 108, 3) := by decide +kernel
theorem dFloating_sum_113 : decode cFloating_sum 113 = .ok (.lstore 13, 2) := by decide +kernel
theorem dFloating_sum_115 : decode cFloating_sum 115 = .ok (.aload_n 0, 1) := by decide +kernel
theorem dFloating_sum_116 : decode cFloating_sum 116 = .ok (.lload_n 1, 1) := by decide +kernel
theorem dFloating_sum_117 : decode cFloating_sum 117 = .ok (.invokevirtual 33, 3) := by decide +kernel
theorem dFloating_sum_120 : decode cFloating_sum 120 = .ok (.aload_n 0, 1) := by decide +kernel
theorem dFloating_sum_121 : decode cFloating_sum 121 = .ok (.lload_n 3, 1) := by decide +kernel
theorem dFloating_sum_122 : decode cFloating_sum 122 = .ok (.invokevirtual 33, 3) := by decide +kernel
theorem dFloating_sum_125 : decode cFloating_sum 125 = .ok (.if_icmp .ne 7, 3) := by decide +kernel
theorem dFloating_sum_128 : decode cFloating_sum 128 = .ok (.iconst 1, 1) := by decide +kernel
theorem dFloating_sum_129 : decode cFloating_sum 129 = .ok (.goto 4, 3) := by decide +kernel
theorem dFloating_sum_132 : decode cFloating_sum 132 = .ok (.iconst 0, 1) := by decide +kernel
theorem dFloating_sum_133 : decode cFloating_sum 133 = .ok (.istore 15, 2) := by decide +kernel
theorem dFloating_sum_135 : decode cFloating_sum 135 = .ok (.iload 15, 2) := by decide +kernel
theorem dFloating_sum_137 : decode cFloating_sum 137 = .ok (.ifCond .eq 11, 3) := by decide +kernel
theorem dFloating_sum_140 : decode cFloating_sum 140 = .ok (.lload 11, 2) := by decide +kernel
theorem dFloating_sum_142 : decode cFloating_sum 142 = .ok (.lload 13, 2) := by decide +kernel
theorem dFloating_sum_144 : decode cFloating_sum 144 = .ok (.ladd, 1) := by decide +kernel
theorem dFloating_sum_145 : decode cFloating_sum 145 = .ok (.goto 8, 3) := by decide +kernel
theorem dFloating_sum_148 : decode cFloating_sum 148 = .ok (.lload 11, 2) := by decide +kernel
theorem dFloating_sum_150 : decode cFloating_sum 150 = .ok (.lload 13, 2) := by decide +kernel
theorem dFloating_sum_152 : decode cFloating_sum 152 = .ok (.lsub, 1) := by decide +kernel
theorem dFloating_sum_153 : decode cFloating_sum 153 = .ok (.lstore 16, 2) := by decide +kernel
theorem dFloating_sum_155 : decode cFloating_sum 155 = .ok (.lload 16, 2) := by decide +kernel
theorem dFloating_sum_157 : decode cFloating_sum 157 = .ok (.lconst 0, 1) := by decide +kernel
theorem dFloating_sum_158 : decode cFloating_sum 158 = .ok (.lcmp, 1) := by decide +kernel
theorem dFloating_sum_159 : decode cFloating_sum 159 = .ok (.ifCond .ne 24, 3) := by decide +kernel
theorem dFloating_sum_162 : decode cFloating_sum 162 = .ok (.iload 15, 2) := by decide +kernel
theorem dFloating_sum_164 : decode cFloating_sum 164 = .ok (.ifCond .eq 15, 3) := by decide +kernel
theorem dFloating_sum_167 : decode cFloating_sum 167 = .ok (.aload_n 0, 1) := by decide +kernel
theorem dFloating_sum_168 : decode cFloating_sum 168 = .ok (.lload_n 1, 1) := by decide +kernel
theorem dFloating_sum_169 : decode cFloating_sum 169 = .ok (.invokevirtual 33, 3) := by decide +kernel
theorem dFloating_sum_172 : decode cFloating_sum 172 = .ok (.ifCond .eq 7, 3) := by decide +kernel
theorem dFloating_sum_175 : decode cFloating_sum 175 = .ok (.iconst 1, 1) := by decide +kernel
theorem dFloating_sum_176 : decode cFloating_sum 176 = .ok (.goto 13, 3) := by decide +kernel
theorem dFloating_sum_179 : decode cFloating_sum 179 = .ok (.iconst 0, 1) := by decide +kernel
theorem dFloating_sum_180 : decode cFloating_sum 180 = .ok (.goto 9, 3) := by decide +kernel
theorem dFloating_sum_183 : decode cFloating_sum 183 = .ok (.aload_n 0, 1) := by decide +kernel
theorem dFloating_sum_184 : decode cFloating_sum 184 = .ok (.lload 6, 2) := by decide +kernel
theorem dFloating_sum_186 : decode cFloating_sum 186 = .ok (.invokevirtual 33, 3) := by decide +kernel
theorem dFloating_sum_189 : decode cFloating_sum 189 = .ok (.istore 18, 2) := by decide +kernel
theorem dFloating_sum_191 : decode cFloating_sum 191 = .ok (.aload_n 0, 1) := by decide +kernel
theorem dFloating_sum_192 : decode cFloating_sum 192 = .ok (.iload 18, 2) := by decide +kernel
theorem dFloating_sum_194 : decode cFloating_sum 194 = .ok (.lload 16, 2) := by decide +kernel
theorem dFloating_sum_196 : decode cFloating_sum 196 = .ok (.aload_n 0, 1) := by decide +kernel
theorem dFloating_sum_197 : decode cFloating_sum 197 = .ok (.lload 6, 2) := by decide +kernel
theorem dFloating_sum_199 : decode cFloating_sum 199 = .ok (.invokevirtual 69, 3) := by decide +kernel
theorem dFloating_sum_202 : decode cFloating_sum 202 = .ok (.iload 10, 2) := by decide +kernel
theorem dFloating_sum_204 : decode cFloating_sum 204 = .ok (.isub, 1) := by decide +kernel
theorem dFloating_sum_205 : decode cFloating_sum 205 = .ok (.invokevirtual 80, 3) := by decide +kernel
theorem dFloating_sum_208 : decode cFloating_sum 208 = .ok (.lreturn, 1) := by decide +kernel
theorem dFloating_highProduct_0 : decode cFloating_highProduct 0 = .ok (.lload_n 0, 1) := by decide +kernel
theorem dFloating_highProduct_1 : decode cFloating_highProduct 1 = .ok (.ldc2_w 118, 3) := by decide +kernel
theorem dFloating_highProduct_4 : decode cFloating_highProduct 4 = .ok (.land, 1) := by decide +kernel
theorem dFloating_highProduct_5 : decode cFloating_highProduct 5 = .ok (.lstore 4, 2) := by decide +kernel
theorem dFloating_highProduct_7 : decode cFloating_highProduct 7 = .ok (.lload_n 2, 1) := by decide +kernel
theorem dFloating_highProduct_8 : decode cFloating_highProduct 8 = .ok (.ldc2_w 118, 3) := by decide +kernel
theorem dFloating_highProduct_11 : decode cFloating_highProduct 11 = .ok (.land, 1) := by decide +kernel
theorem dFloating_highProduct_12 : decode cFloating_highProduct 12 = .ok (.lstore 6, 2) := by decide +kernel
theorem dFloating_highProduct_14 : decode cFloating_highProduct 14 = .ok (.lload_n 0, 1) := by decide +kernel
theorem dFloating_highProduct_15 : decode cFloating_highProduct 15 = .ok (.bipush 32, 2) := by decide +kernel
theorem dFloating_highProduct_17 : decode cFloating_highProduct 17 = .ok (.lushr, 1) := by decide +kernel
theorem dFloating_highProduct_18 : decode cFloating_highProduct 18 = .ok (.lstore 8, 2) := by decide +kernel
theorem dFloating_highProduct_20 : decode cFloating_highProduct 20 = .ok (.lload_n 2, 1) := by decide +kernel
theorem dFloating_highProduct_21 : decode cFloating_highProduct 21 = .ok (.bipush 32, 2) := by decide +kernel
theorem dFloating_highProduct_23 : decode cFloating_highProduct 23 = .ok (.lushr, 1) := by decide +kernel
theorem dFloating_highProduct_24 : decode cFloating_highProduct 24 = .ok (.lstore 10, 2) := by decide +kernel
theorem dFloating_highProduct_26 : decode cFloating_highProduct 26 = .ok (.lload 8, 2) := by decide +kernel
theorem dFloating_highProduct_28 : decode cFloating_highProduct 28 = .ok (.lload 6, 2) := by decide +kernel
theorem dFloating_highProduct_30 : decode cFloating_highProduct 30 = .ok (.lmul, 1) := by decide +kernel
theorem dFloating_highProduct_31 : decode cFloating_highProduct 31 = .ok (.lload 4, 2) := by decide +kernel
theorem dFloating_highProduct_33 : decode cFloating_highProduct 33 = .ok (.lload 6, 2) := by decide +kernel
theorem dFloating_highProduct_35 : decode cFloating_highProduct 35 = .ok (.lmul, 1) := by decide +kernel
theorem dFloating_highProduct_36 : decode cFloating_highProduct 36 = .ok (.bipush 32, 2) := by decide +kernel
theorem dFloating_highProduct_38 : decode cFloating_highProduct 38 = .ok (.lushr, 1) := by decide +kernel
theorem dFloating_highProduct_39 : decode cFloating_highProduct 39 = .ok (.ladd, 1) := by decide +kernel
theorem dFloating_highProduct_40 : decode cFloating_highProduct 40 = .ok (.lstore 12, 2) := by decide +kernel
theorem dFloating_highProduct_42 : decode cFloating_highProduct 42 = .ok (.lload 4, 2) := by decide +kernel
theorem dFloating_highProduct_44 : decode cFloating_highProduct 44 = .ok (.lload 10, 2) := by decide +kernel
theorem dFloating_highProduct_46 : decode cFloating_highProduct 46 = .ok (.lmul, 1) := by decide +kernel
theorem dFloating_highProduct_47 : decode cFloating_highProduct 47 = .ok (.lload 12, 2) := by decide +kernel
theorem dFloating_highProduct_49 : decode cFloating_highProduct 49 = .ok (.ldc2_w 118, 3) := by decide +kernel
theorem dFloating_highProduct_52 : decode cFloating_highProduct 52 = .ok (.land, 1) := by decide +kernel
theorem dFloating_highProduct_53 : decode cFloating_highProduct 53 = .ok (.ladd, 1) := by decide +kernel
theorem dFloating_highProduct_54 : decode cFloating_highProduct 54 = .ok (.lstore 14, 2) := by decide +kernel
theorem dFloating_highProduct_56 : decode cFloating_highProduct 56 = .ok (.lload 8, 2) := by decide +kernel
theorem dFloating_highProduct_58 : decode cFloating_highProduct 58 = .ok (.lload 10, 2) := by decide +kernel
theorem dFloating_highProduct_60 : decode cFloating_highProduct 60 = .ok (.lmul, 1) := by decide +kernel
theorem dFloating_highProduct_61 : decode cFloating_highProduct 61 = .ok (.lload 12, 2) := by decide +kernel
theorem dFloating_highProduct_63 : decode cFloating_highProduct 63 = .ok (.bipush 32, 2) := by decide +kernel
theorem dFloating_highProduct_65 : decode cFloating_highProduct 65 = .ok (.lushr, 1) := by decide +kernel
theorem dFloating_highProduct_66 : decode cFloating_highProduct 66 = .ok (.ladd, 1) := by decide +kernel
theorem dFloating_highProduct_67 : decode cFloating_highProduct 67 = .ok (.lload 14, 2) := by decide +kernel
theorem dFloating_highProduct_69 : decode cFloating_highProduct 69 = .ok (.bipush 32, 2) := by decide +kernel
theorem dFloating_highProduct_71 : decode cFloating_highProduct 71 = .ok (.lushr, 1) := by decide +kernel
theorem dFloating_highProduct_72 : decode cFloating_highProduct 72 = .ok (.ladd, 1) := by decide +kernel
theorem dFloating_highProduct_73 : decode cFloating_highProduct 73 = .ok (.lreturn, 1) := by decide +kernel
theorem dFloating_product_0 : decode cFloating_product 0 = .ok (.aload_n 0, 1) := by decide +kernel
theorem dFloating_product_1 : decode cFloating_product 1 = .ok (.lload_n 1, 1) := by decide +kernel
theorem dFloating_product_2 : decode cFloating_product 2 = .ok (.invokevirtual 33, 3) := by decide +kernel
theorem dFloating_product_5 : decode cFloating_product 5 = .ok (.aload_n 0, 1) := by decide +kernel
theorem dFloating_product_6 : decode cFloating_product 6 = .ok (.lload_n 3, 1) := by decide +kernel
theorem dFloating_product_7 : decode cFloating_product 7 = .ok (.invokevirtual 33, 3) := by decide +kernel
theorem dFloating_product_10 : decode cFloating_product 10 = .ok (.if_icmp .eq 7, 3) := by decide +kernel
theorem dFloating_product_13 : decode cFloating_product 13 = .ok (.iconst 1, 1) := by decide +kernel
theorem dFloating_product_14 : decode cFloating_product 14 = .ok (.goto 4, 3) := by decide +kernel
theorem dFloating_product_17 : decode cFloating_product 17 = .ok (.iconst 0, 1) := by decide +kernel
theorem dFloating_product_18 : decode cFloating_product 18 = .ok (.istore 5, 2) := by decide +kernel
theorem dFloating_product_20 : decode cFloating_product 20 = .ok (.aload_n 0, 1) := by decide +kernel
theorem dFloating_product_21 : decode cFloating_product 21 = .ok (.lload_n 1, 1) := by decide +kernel
theorem dFloating_product_22 : decode cFloating_product 22 = .ok (.invokevirtual 90, 3) := by decide +kernel
theorem dFloating_product_25 : decode cFloating_product 25 = .ok (.ifCond .ne 11, 3) := by decide +kernel
theorem dFloating_product_28 : decode cFloating_product 28 = .ok (.aload_n 0, 1) := by decide +kernel
theorem dFloating_product_29 : decode cFloating_product 29 = .ok (.lload_n 3, 1) := by decide +kernel
theorem dFloating_product_30 : decode cFloating_product 30 = .ok (.invokevirtual 90, 3) := by decide +kernel
theorem dFloating_product_33 : decode cFloating_product 33 = .ok (.ifCond .eq 7, 3) := by decide +kernel
theorem dFloating_product_36 : decode cFloating_product 36 = .ok (.iconst 1, 1) := by decide +kernel
theorem dFloating_product_37 : decode cFloating_product 37 = .ok (.goto 4, 3) := by decide +kernel
theorem dFloating_product_40 : decode cFloating_product 40 = .ok (.iconst 0, 1) := by decide +kernel
theorem dFloating_product_41 : decode cFloating_product 41 = .ok (.istore 6, 2) := by decide +kernel
theorem dFloating_product_43 : decode cFloating_product 43 = .ok (.aload_n 0, 1) := by decide +kernel
theorem dFloating_product_44 : decode cFloating_product 44 = .ok (.lload_n 1, 1) := by decide +kernel
theorem dFloating_product_45 : decode cFloating_product 45 = .ok (.invokevirtual 93, 3) := by decide +kernel
theorem dFloating_product_48 : decode cFloating_product 48 = .ok (.ifCond .ne 11, 3) := by decide +kernel
theorem dFloating_product_51 : decode cFloating_product 51 = .ok (.aload_n 0, 1) := by decide +kernel
theorem dFloating_product_52 : decode cFloating_product 52 = .ok (.lload_n 3, 1) := by decide +kernel
theorem dFloating_product_53 : decode cFloating_product 53 = .ok (.invokevirtual 93, 3) := by decide +kernel
theorem dFloating_product_56 : decode cFloating_product 56 = .ok (.ifCond .eq 26, 3) := by decide +kernel
theorem dFloating_product_59 : decode cFloating_product 59 = .ok (.iload 6, 2) := by decide +kernel
theorem dFloating_product_61 : decode cFloating_product 61 = .ok (.ifCond .eq 10, 3) := by decide +kernel
theorem dFloating_product_64 : decode cFloating_product 64 = .ok (.aload_n 0, 1) := by decide +kernel
theorem dFloating_product_65 : decode cFloating_product 65 = .ok (.getfield 40, 3) := by decide +kernel
theorem dFloating_product_68 : decode cFloating_product 68 = .ok (.goto 13, 3) := by decide +kernel
theorem dFloating_product_71 : decode cFloating_product 71 = .ok (.aload_n 0, 1) := by decide +kernel
theorem dFloating_product_72 : decode cFloating_product 72 = .ok (.iload 5, 2) := by decide +kernel
theorem dFloating_product_74 : decode cFloating_product 74 = .ok (.aload_n 0, 1) := by decide +kernel
theorem dFloating_product_75 : decode cFloating_product 75 = .ok (.getfield 111, 3) := by decide +kernel
theorem dFloating_product_78 : decode cFloating_product 78 = .ok (.invokevirtual 36, 3) := by decide +kernel
theorem dFloating_product_81 : decode cFloating_product 81 = .ok (.lreturn, 1) := by decide +kernel
theorem dFloating_product_82 : decode cFloating_product 82 = .ok (.iload 6, 2) := by decide +kernel
theorem dFloating_product_84 : decode cFloating_product 84 = .ok (.ifCond .eq 11, 3) := by decide +kernel
theorem dFloating_product_87 : decode cFloating_product 87 = .ok (.aload_n 0, 1) := by decide +kernel
theorem dFloating_product_88 : decode cFloating_product 88 = .ok (.iload 5, 2) := by decide +kernel
theorem dFloating_product_90 : decode cFloating_product 90 = .ok (.lconst 0, 1) := by decide +kernel
theorem dFloating_product_91 : decode cFloating_product 91 = .ok (.invokevirtual 36, 3) := by decide +kernel
theorem dFloating_product_94 : decode cFloating_product 94 = .ok (.lreturn, 1) := by decide +kernel
theorem dFloating_product_95 : decode cFloating_product 95 = .ok (.aload_n 0, 1) := by decide +kernel
theorem dFloating_product_96 : decode cFloating_product 96 = .ok (.lload_n 1, 1) := by decide +kernel
theorem dFloating_product_97 : decode cFloating_product 97 = .ok (.invokevirtual 73, 3) := by decide +kernel
theorem dFloating_product_100 : decode cFloating_product 100 = .ok (.invokestatic 96, 3) := by decide +kernel
theorem dFloating_product_103 : decode cFloating_product 103 = .ok (.istore 7, 2) := by decide +kernel
theorem dFloating_product_105 : decode cFloating_product 105 = .ok (.aload_n 0, 1) := by decide +kernel
theorem dFloating_product_106 : decode cFloating_product 106 = .ok (.lload_n 3, 1) := by decide +kernel
theorem dFloating_product_107 : decode cFloating_product 107 = .ok (.invokevirtual 73, 3) := by decide +kernel
theorem dFloating_product_110 : decode cFloating_product 110 = .ok (.invokestatic 96, 3) := by decide +kernel
theorem dFloating_product_113 : decode cFloating_product 113 = .ok (.istore 8, 2) := by decide +kernel
theorem dFloating_product_115 : decode cFloating_product 115 = .ok (.aload_n 0, 1) := by decide +kernel
theorem dFloating_product_116 : decode cFloating_product 116 = .ok (.lload_n 1, 1) := by decide +kernel
theorem dFloating_product_117 : decode cFloating_product 117 = .ok (.invokevirtual 73, 3) := by decide +kernel
theorem dFloating_product_120 : decode cFloating_product 120 = .ok (.iload 7, 2) := by decide +kernel
theorem dFloating_product_122 : decode cFloating_product 122 = .ok (.lshl, 1) := by decide +kernel
theorem dFloating_product_123 : decode cFloating_product 123 = .ok (.lstore 9, 2) := by decide +kernel
theorem dFloating_product_125 : decode cFloating_product 125 = .ok (.aload_n 0, 1) := by decide +kernel
theorem dFloating_product_126 : decode cFloating_product 126 = .ok (.lload_n 3, 1) := by decide +kernel
theorem dFloating_product_127 : decode cFloating_product 127 = .ok (.invokevirtual 73, 3) := by decide +kernel
theorem dFloating_product_130 : decode cFloating_product 130 = .ok (.iload 8, 2) := by decide +kernel
theorem dFloating_product_132 : decode cFloating_product 132 = .ok (.lshl, 1) := by decide +kernel
theorem dFloating_product_133 : decode cFloating_product 133 = .ok (.lstore 11, 2) := by decide +kernel
theorem dFloating_product_135 : decode cFloating_product 135 = .ok (.lload 9, 2) := by decide +kernel
theorem dFloating_product_137 : decode cFloating_product 137 = .ok (.lload 11, 2) := by decide +kernel
theorem dFloating_product_139 : decode cFloating_product 139 = .ok (.invokestatic 114, 3) := by decide +kernel
theorem dFloating_product_142 : decode cFloating_product 142 = .ok (.lstore 13, 2) := by decide +kernel
theorem dFloating_product_144 : decode cFloating_product 144 = .ok (.aload_n 0, 1) := by decide +kernel
theorem dFloating_product_145 : decode cFloating_product 145 = .ok (.lload_n 1, 1) := by decide +kernel
theorem dFloating_product_146 : decode cFloating_product 146 = .ok (.invokevirtual 69, 3) := by decide +kernel
theorem dFloating_product_149 : decode cFloating_product 149 = .ok (.iload 7, 2) := by decide +kernel
theorem dFloating_product_151 : decode cFloating_product 151 = .ok (.isub, 1) := by decide +kernel
theorem dFloating_product_152 : decode cFloating_product 152 = .ok (.aload_n 0, 1) := by decide +kernel
theorem dFloating_product_153 : decode cFloating_product 153 = .ok (.lload_n 3, 1) := by decide +kernel
theorem dFloating_product_154 : decode cFloating_product 154 = .ok (.invokevirtual 69, 3) := by decide +kernel
theorem dFloating_product_157 : decode cFloating_product 157 = .ok (.iadd, 1) := by decide +kernel
theorem dFloating_product_158 : decode cFloating_product 158 = .ok (.iload 8, 2) := by decide +kernel
theorem dFloating_product_160 : decode cFloating_product 160 = .ok (.isub, 1) := by decide +kernel
theorem dFloating_product_161 : decode cFloating_product 161 = .ok (.bipush 64, 2) := by decide +kernel
theorem dFloating_product_163 : decode cFloating_product 163 = .ok (.iadd, 1) := by decide +kernel
theorem dFloating_product_164 : decode cFloating_product 164 = .ok (.istore 15, 2) := by decide +kernel
theorem dFloating_product_166 : decode cFloating_product 166 = .ok (.aload_n 0, 1) := by decide +kernel
theorem dFloating_product_167 : decode cFloating_product 167 = .ok (.iload 5, 2) := by decide +kernel
theorem dFloating_product_169 : decode cFloating_product 169 = .ok (.lload 9, 2) := by decide +kernel
theorem dFloating_product_171 : decode cFloating_product 171 = .ok (.lload 11, 2) := by decide +kernel
theorem dFloating_product_173 : decode cFloating_product 173 = .ok (.lmul, 1) := by decide +kernel
theorem dFloating_product_174 : decode cFloating_product 174 = .ok (.lconst 0, 1) := by decide +kernel
theorem dFloating_product_175 : decode cFloating_product 175 = .ok (.lcmp, 1) := by decide +kernel
theorem dFloating_product_176 : decode cFloating_product 176 = .ok (.ifCond .ne 8, 3) := by decide +kernel
theorem dFloating_product_179 : decode cFloating_product 179 = .ok (.lload 13, 2) := by decide +kernel
theorem dFloating_product_181 : decode cFloating_product 181 = .ok (.goto 7, 3) := by decide +kernel
theorem dFloating_product_184 : decode cFloating_product 184 = .ok (.lload 13, 2) := by decide +kernel
theorem dFloating_product_186 : decode cFloating_product 186 = .ok (.lconst 1, 1) := by decide +kernel
theorem dFloating_product_187 : decode cFloating_product 187 = .ok (.lor, 1) := by decide +kernel
theorem dFloating_product_188 : decode cFloating_product 188 = .ok (.iload 15, 2) := by decide +kernel
theorem dFloating_product_190 : decode cFloating_product 190 = .ok (.invokevirtual 80, 3) := by decide +kernel
theorem dFloating_product_193 : decode cFloating_product 193 = .ok (.lreturn, 1) := by decide +kernel
theorem dFloating_quotient_0 : decode cFloating_quotient 0 = .ok (.aload_n 0, 1) := by decide +kernel
theorem dFloating_quotient_1 : decode cFloating_quotient 1 = .ok (.lload_n 1, 1) := by decide +kernel
theorem dFloating_quotient_2 : decode cFloating_quotient 2 = .ok (.invokevirtual 33, 3) := by decide +kernel
theorem dFloating_quotient_5 : decode cFloating_quotient 5 = .ok (.aload_n 0, 1) := by decide +kernel
theorem dFloating_quotient_6 : decode cFloating_quotient 6 = .ok (.lload_n 3, 1) := by decide +kernel
theorem dFloating_quotient_7 : decode cFloating_quotient 7 = .ok (.invokevirtual 33, 3) := by decide +kernel
theorem dFloating_quotient_10 : decode cFloating_quotient 10 = .ok (.if_icmp .eq 7, 3) := by decide +kernel
theorem dFloating_quotient_13 : decode cFloating_quotient 13 = .ok (.iconst 1, 1) := by decide +kernel
theorem dFloating_quotient_14 : decode cFloating_quotient 14 = .ok (.goto 4, 3) := by decide +kernel
theorem dFloating_quotient_17 : decode cFloating_quotient 17 = .ok (.iconst 0, 1) := by decide +kernel
theorem dFloating_quotient_18 : decode cFloating_quotient 18 = .ok (.istore 5, 2) := by decide +kernel
theorem dFloating_quotient_20 : decode cFloating_quotient 20 = .ok (.aload_n 0, 1) := by decide +kernel
theorem dFloating_quotient_21 : decode cFloating_quotient 21 = .ok (.lload_n 1, 1) := by decide +kernel
theorem dFloating_quotient_22 : decode cFloating_quotient 22 = .ok (.invokevirtual 90, 3) := by decide +kernel
theorem dFloating_quotient_25 : decode cFloating_quotient 25 = .ok (.ifCond .eq 11, 3) := by decide +kernel
theorem dFloating_quotient_28 : decode cFloating_quotient 28 = .ok (.aload_n 0, 1) := by decide +kernel
theorem dFloating_quotient_29 : decode cFloating_quotient 29 = .ok (.lload_n 3, 1) := by decide +kernel
theorem dFloating_quotient_30 : decode cFloating_quotient 30 = .ok (.invokevirtual 90, 3) := by decide +kernel
theorem dFloating_quotient_33 : decode cFloating_quotient 33 = .ok (.ifCond .ne 19, 3) := by decide +kernel
theorem dFloating_quotient_36 : decode cFloating_quotient 36 = .ok (.aload_n 0, 1) := by decide +kernel
theorem dFloating_quotient_37 : decode cFloating_quotient 37 = .ok (.lload_n 1, 1) := by decide +kernel
theorem dFloating_quotient_38 : decode cFloating_quotient 38 = .ok (.invokevirtual 93, 3) := by decide +kernel
theorem dFloating_quotient_41 : decode cFloating_quotient 41 = .ok (.ifCond .eq 15, 3) := by decide +kernel
theorem dFloating_quotient_44 : decode cFloating_quotient 44 = .ok (.aload_n 0, 1) := by decide +kernel
theorem dFloating_quotient_45 : decode cFloating_quotient 45 = .ok (.lload_n 3, 1) := by decide +kernel
theorem dFloating_quotient_46 : decode cFloating_quotient 46 = .ok (.invokevirtual 93, 3) := by decide +kernel
theorem dFloating_quotient_49 : decode cFloating_quotient 49 = .ok (.ifCond .eq 7, 3) := by decide +kernel
theorem dFloating_quotient_52 : decode cFloating_quotient 52 = .ok (.iconst 1, 1) := by decide +kernel
theorem dFloating_quotient_53 : decode cFloating_quotient 53 = .ok (.goto 4, 3) := by decide +kernel
theorem dFloating_quotient_56 : decode cFloating_quotient 56 = .ok (.iconst 0, 1) := by decide +kernel
theorem dFloating_quotient_57 : decode cFloating_quotient 57 = .ok (.istore 6, 2) := by decide +kernel
theorem dFloating_quotient_59 : decode cFloating_quotient 59 = .ok (.iload 6, 2) := by decide +kernel
theorem dFloating_quotient_61 : decode cFloating_quotient 61 = .ok (.ifCond .eq 8, 3) := by decide +kernel
theorem dFloating_quotient_64 : decode cFloating_quotient 64 = .ok (.aload_n 0, 1) := by decide +kernel
theorem dFloating_quotient_65 : decode cFloating_quotient 65 = .ok (.getfield 40, 3) := by decide +kernel
theorem dFloating_quotient_68 : decode cFloating_quotient 68 = .ok (.lreturn, 1) := by decide +kernel
theorem dFloating_quotient_69 : decode cFloating_quotient 69 = .ok (.aload_n 0, 1) := by decide +kernel
theorem dFloating_quotient_70 : decode cFloating_quotient 70 = .ok (.lload_n 1, 1) := by decide +kernel
theorem dFloating_quotient_71 : decode cFloating_quotient 71 = .ok (.invokevirtual 93, 3) := by decide +kernel
theorem dFloating_quotient_74 : decode cFloating_quotient 74 = .ok (.ifCond .ne 11, 3) := by decide +kernel
theorem dFloating_quotient_77 : decode cFloating_quotient 77 = .ok (.aload_n 0, 1) := by decide +kernel
theorem dFloating_quotient_78 : decode cFloating_quotient 78 = .ok (.lload_n 3, 1) := by decide +kernel
theorem dFloating_quotient_79 : decode cFloating_quotient 79 = .ok (.invokevirtual 90, 3) := by decide +kernel
theorem dFloating_quotient_82 : decode cFloating_quotient 82 = .ok (.ifCond .eq 14, 3) := by decide +kernel
theorem dFloating_quotient_85 : decode cFloating_quotient 85 = .ok (.aload_n 0, 1) := by decide +kernel
theorem dFloating_quotient_86 : decode cFloating_quotient 86 = .ok (.iload 5, 2) := by decide +kernel
theorem dFloating_quotient_88 : decode cFloating_quotient 88 = .ok (.aload_n 0, 1) := by decide +kernel
theorem dFloating_quotient_89 : decode cFloating_quotient 89 = .ok (.getfield 111, 3) := by decide +kernel
theorem dFloating_quotient_92 : decode cFloating_quotient 92 = .ok (.invokevirtual 36, 3) := by decide +kernel
theorem dFloating_quotient_95 : decode cFloating_quotient 95 = .ok (.lreturn, 1) := by decide +kernel
theorem dFloating_quotient_96 : decode cFloating_quotient 96 = .ok (.aload_n 0, 1) := by decide +kernel
theorem dFloating_quotient_97 : decode cFloating_quotient 97 = .ok (.lload_n 1, 1) := by decide +kernel
theorem dFloating_quotient_98 : decode cFloating_quotient 98 = .ok (.invokevirtual 90, 3) := by decide +kernel
theorem dFloating_quotient_101 : decode cFloating_quotient 101 = .ok (.ifCond .ne 11, 3) := by decide +kernel
theorem dFloating_quotient_104 : decode cFloating_quotient 104 = .ok (.aload_n 0, 1) := by decide +kernel
theorem dFloating_quotient_105 : decode cFloating_quotient 105 = .ok (.lload_n 3, 1) := by decide +kernel
theorem dFloating_quotient_106 : decode cFloating_quotient 106 = .ok (.invokevirtual 93, 3) := by decide +kernel
theorem dFloating_quotient_109 : decode cFloating_quotient 109 = .ok (.ifCond .eq 11, 3) := by decide +kernel
theorem dFloating_quotient_112 : decode cFloating_quotient 112 = .ok (.aload_n 0, 1) := by decide +kernel
theorem dFloating_quotient_113 : decode cFloating_quotient 113 = .ok (.iload 5, 2) := by decide +kernel
theorem dFloating_quotient_115 : decode cFloating_quotient 115 = .ok (.lconst 0, 1) := by decide +kernel
theorem dFloating_quotient_116 : decode cFloating_quotient 116 = .ok (.invokevirtual 36, 3) := by decide +kernel
theorem dFloating_quotient_119 : decode cFloating_quotient 119 = .ok (.lreturn, 1) := by decide +kernel
theorem dFloating_quotient_120 : decode cFloating_quotient 120 = .ok (.aload_n 0, 1) := by decide +kernel
theorem dFloating_quotient_121 : decode cFloating_quotient 121 = .ok (.lload_n 1, 1) := by decide +kernel
theorem dFloating_quotient_122 : decode cFloating_quotient 122 = .ok (.invokevirtual 73, 3) := by decide +kernel
theorem dFloating_quotient_125 : decode cFloating_quotient 125 = .ok (.invokestatic 96, 3) := by decide +kernel
theorem dFloating_quotient_128 : decode cFloating_quotient 128 = .ok (.istore 7, 2) := by decide +kernel
theorem dFloating_quotient_130 : decode cFloating_quotient 130 = .ok (.aload_n 0, 1) := by decide +kernel
theorem dFloating_quotient_131 : decode cFloating_quotient 131 = .ok (.lload_n 3, 1) := by decide +kernel
theorem dFloating_quotient_132 : decode cFloating_quotient 132 = .ok (.invokevirtual 73, 3) := by decide +kernel
theorem dFloating_quotient_135 : decode cFloating_quotient 135 = .ok (.invokestatic 96, 3) := by decide +kernel
theorem dFloating_quotient_138 : decode cFloating_quotient 138 = .ok (.istore 8, 2) := by decide +kernel
theorem dFloating_quotient_140 : decode cFloating_quotient 140 = .ok (.aload_n 0, 1) := by decide +kernel
theorem dFloating_quotient_141 : decode cFloating_quotient 141 = .ok (.lload_n 1, 1) := by decide +kernel
theorem dFloating_quotient_142 : decode cFloating_quotient 142 = .ok (.invokevirtual 73, 3) := by decide +kernel
theorem dFloating_quotient_145 : decode cFloating_quotient 145 = .ok (.iload 7, 2) := by decide +kernel
theorem dFloating_quotient_147 : decode cFloating_quotient 147 = .ok (.lshl, 1) := by decide +kernel
theorem dFloating_quotient_148 : decode cFloating_quotient 148 = .ok (.lstore 9, 2) := by decide +kernel
theorem dFloating_quotient_150 : decode cFloating_quotient 150 = .ok (.aload_n 0, 1) := by decide +kernel
theorem dFloating_quotient_151 : decode cFloating_quotient 151 = .ok (.lload_n 3, 1) := by decide +kernel
theorem dFloating_quotient_152 : decode cFloating_quotient 152 = .ok (.invokevirtual 73, 3) := by decide +kernel
theorem dFloating_quotient_155 : decode cFloating_quotient 155 = .ok (.iload 8, 2) := by decide +kernel
theorem dFloating_quotient_157 : decode cFloating_quotient 157 = .ok (.lshl, 1) := by decide +kernel
theorem dFloating_quotient_158 : decode cFloating_quotient 158 = .ok (.lstore 11, 2) := by decide +kernel
theorem dFloating_quotient_160 : decode cFloating_quotient 160 = .ok (.lconst 0, 1) := by decide +kernel
theorem dFloating_quotient_161 : decode cFloating_quotient 161 = .ok (.lstore 13, 2) := by decide +kernel
theorem dFloating_quotient_163 : decode cFloating_quotient 163 = .ok (.iconst 0, 1) := by decide +kernel
theorem dFloating_quotient_164 : decode cFloating_quotient 164 = .ok (.istore 15, 2) := by decide +kernel
theorem dFloating_quotient_166 : decode cFloating_quotient 166 = .ok (.iload 15, 2) := by decide +kernel
theorem dFloating_quotient_168 : decode cFloating_quotient 168 = .ok (.bipush 57, 2) := by decide +kernel
theorem dFloating_quotient_170 : decode cFloating_quotient 170 = .ok (.if_icmp .ge 42, 3) := by decide +kernel
theorem dFloating_quotient_173 : decode cFloating_quotient 173 = .ok (.lload 13, 2) := by decide +kernel
theorem dFloating_quotient_175 : decode cFloating_quotient 175 = .ok (.iconst 1, 1) := by decide +kernel
theorem dFloating_quotient_176 : decode cFloating_quotient 176 = .ok (.lshl, 1) := by decide +kernel
theorem dFloating_quotient_177 : decode cFloating_quotient 177 = .ok (.lstore 13, 2) := by decide +kernel
theorem dFloating_quotient_179 : decode cFloating_quotient 179 = .ok (.lload 9, 2) := by decide +kernel
theorem dFloating_quotient_181 : decode cFloating_quotient 181 = .ok (.lload 11, 2) := by decide +kernel
theorem dFloating_quotient_183 : decode cFloating_quotient 183 = .ok (.lcmp, 1) := by decide +kernel
theorem dFloating_quotient_184 : decode cFloating_quotient 184 = .ok (.ifCond .lt 16, 3) := by decide +kernel
theorem dFloating_quotient_187 : decode cFloating_quotient 187 = .ok (.lload 9, 2) := by decide +kernel
theorem dFloating_quotient_189 : decode cFloating_quotient 189 = .ok (.lload 11, 2) := by decide +kernel
theorem dFloating_quotient_191 : decode cFloating_quotient 191 = .ok (.lsub, 1) := by decide +kernel
theorem dFloating_quotient_192 : decode cFloating_quotient 192 = .ok (.lstore 9, 2) := by decide +kernel
theorem dFloating_quotient_194 : decode cFloating_quotient 194 = .ok (.lload 13, 2) := by decide +kernel
theorem dFloating_quotient_196 : decode cFloating_quotient 196 = .ok (.lconst 1, 1) := by decide +kernel
theorem dFloating_quotient_197 : decode cFloating_quotient 197 = .ok (.lor, 1) := by decide +kernel
theorem dFloating_quotient_198 : decode cFloating_quotient 198 = .ok (.lstore 13, 2) := by decide +kernel
theorem dFloating_quotient_200 : decode cFloating_quotient 200 = .ok (.lload 9, 2) := by decide +kernel
theorem dFloating_quotient_202 : decode cFloating_quotient 202 = .ok (.iconst 1, 1) := by decide +kernel
theorem dFloating_quotient_203 : decode cFloating_quotient 203 = .ok (.lshl, 1) := by decide +kernel
theorem dFloating_quotient_204 : decode cFloating_quotient 204 = .ok (.lstore 9, 2) := by decide +kernel
theorem dFloating_quotient_206 : decode cFloating_quotient 206 = .ok (.iinc 15 1, 3) := by decide +kernel
theorem dFloating_quotient_209 : decode cFloating_quotient 209 = .ok (.goto (-43), 3) := by decide +kernel
theorem dFloating_quotient_212 : decode cFloating_quotient 212 = .ok (.aload_n 0, 1) := by decide +kernel
theorem dFloating_quotient_213 : decode cFloating_quotient 213 = .ok (.lload_n 1, 1) := by decide +kernel
theorem dFloating_quotient_214 : decode cFloating_quotient 214 = .ok (.invokevirtual 69, 3) := by decide +kernel
theorem dFloating_quotient_217 : decode cFloating_quotient 217 = .ok (.iload 7, 2) := by decide +kernel
theorem dFloating_quotient_219 : decode cFloating_quotient 219 = .ok (.isub, 1) := by decide +kernel
theorem dFloating_quotient_220 : decode cFloating_quotient 220 = .ok (.aload_n 0, 1) := by decide +kernel
theorem dFloating_quotient_221 : decode cFloating_quotient 221 = .ok (.lload_n 3, 1) := by decide +kernel
theorem dFloating_quotient_222 : decode cFloating_quotient 222 = .ok (.invokevirtual 69, 3) := by decide +kernel
theorem dFloating_quotient_225 : decode cFloating_quotient 225 = .ok (.iload 8, 2) := by decide +kernel
theorem dFloating_quotient_227 : decode cFloating_quotient 227 = .ok (.isub, 1) := by decide +kernel
theorem dFloating_quotient_228 : decode cFloating_quotient 228 = .ok (.isub, 1) := by decide +kernel
theorem dFloating_quotient_229 : decode cFloating_quotient 229 = .ok (.bipush 56, 2) := by decide +kernel
theorem dFloating_quotient_231 : decode cFloating_quotient 231 = .ok (.isub, 1) := by decide +kernel
theorem dFloating_quotient_232 : decode cFloating_quotient 232 = .ok (.istore 15, 2) := by decide +kernel
theorem dFloating_quotient_234 : decode cFloating_quotient 234 = .ok (.aload_n 0, 1) := by decide +kernel
theorem dFloating_quotient_235 : decode cFloating_quotient 235 = .ok (.iload 5, 2) := by decide +kernel
theorem dFloating_quotient_237 : decode cFloating_quotient 237 = .ok (.lload 9, 2) := by decide +kernel
theorem dFloating_quotient_239 : decode cFloating_quotient 239 = .ok (.lconst 0, 1) := by decide +kernel
theorem dFloating_quotient_240 : decode cFloating_quotient 240 = .ok (.lcmp, 1) := by decide +kernel
theorem dFloating_quotient_241 : decode cFloating_quotient 241 = .ok (.ifCond .ne 8, 3) := by decide +kernel
theorem dFloating_quotient_244 : decode cFloating_quotient 244 = .ok (.lload 13, 2) := by decide +kernel
theorem dFloating_quotient_246 : decode cFloating_quotient 246 = .ok (.goto 7, 3) := by decide +kernel
theorem dFloating_quotient_249 : decode cFloating_quotient 249 = .ok (.lload 13, 2) := by decide +kernel
theorem dFloating_quotient_251 : decode cFloating_quotient 251 = .ok (.lconst 1, 1) := by decide +kernel
theorem dFloating_quotient_252 : decode cFloating_quotient 252 = .ok (.lor, 1) := by decide +kernel
theorem dFloating_quotient_253 : decode cFloating_quotient 253 = .ok (.iload 15, 2) := by decide +kernel
theorem dFloating_quotient_255 : decode cFloating_quotient 255 = .ok (.invokevirtual 80, 3) := by decide +kernel
theorem dFloating_quotient_258 : decode cFloating_quotient 258 = .ok (.lreturn, 1) := by decide +kernel
theorem dFloating_orderWithZeros_0 : decode cFloating_orderWithZeros 0 = .ok (.aload_n 0, 1) := by decide +kernel
theorem dFloating_orderWithZeros_1 : decode cFloating_orderWithZeros 1 = .ok (.lload_n 1, 1) := by decide +kernel
theorem dFloating_orderWithZeros_2 : decode cFloating_orderWithZeros 2 = .ok (.invokevirtual 25, 3) := by decide +kernel
theorem dFloating_orderWithZeros_5 : decode cFloating_orderWithZeros 5 = .ok (.lstore_n 3, 1) := by decide +kernel
theorem dFloating_orderWithZeros_6 : decode cFloating_orderWithZeros 6 = .ok (.aload_n 0, 1) := by decide +kernel
theorem dFloating_orderWithZeros_7 : decode cFloating_orderWithZeros 7 = .ok (.lload_n 1, 1) := by decide +kernel
theorem dFloating_orderWithZeros_8 : decode cFloating_orderWithZeros 8 = .ok (.invokevirtual 33, 3) := by decide +kernel
theorem dFloating_orderWithZeros_11 : decode cFloating_orderWithZeros 11 = .ok (.ifCond .eq 11, 3) := by decide +kernel
theorem dFloating_orderWithZeros_14 : decode cFloating_orderWithZeros 14 = .ok (.lload_n 3, 1) := by decide +kernel
theorem dFloating_orderWithZeros_15 : decode cFloating_orderWithZeros 15 = .ok (.ldc2_w 67, 3) := by decide +kernel
theorem dFloating_orderWithZeros_18 : decode cFloating_orderWithZeros 18 = .ok (.lxor, 1) := by decide +kernel
theorem dFloating_orderWithZeros_19 : decode cFloating_orderWithZeros 19 = .ok (.goto 4, 3) := by decide +kernel
theorem dFloating_orderWithZeros_22 : decode cFloating_orderWithZeros 22 = .ok (.lload_n 3, 1) := by decide +kernel
theorem dFloating_orderWithZeros_23 : decode cFloating_orderWithZeros 23 = .ok (.lreturn, 1) := by decide +kernel
theorem dFloating_calculated_0 : decode cFloating_calculated 0 = .ok (.iload_n 0, 1) := by decide +kernel
theorem dFloating_calculated_1 : decode cFloating_calculated 1 = .ok (.tableswitch 153 2 12 #[59, 59, 59, 59, 66, 72, 80, 93, 101, 109, 131], 59) := by decide +kernel
theorem dFloating_calculated_60 : decode cFloating_calculated 60 = .ok (.iload_n 0, 1) := by decide +kernel
theorem dFloating_calculated_61 : decode cFloating_calculated 61 = .ok (.aload_n 1, 1) := by decide +kernel
theorem dFloating_calculated_62 : decode cFloating_calculated 62 = .ok (.lload_n 2, 1) := by decide +kernel
theorem dFloating_calculated_63 : decode cFloating_calculated 63 = .ok (.invokestatic 47, 3) := by decide +kernel
theorem dFloating_calculated_66 : decode cFloating_calculated 66 = .ok (.lreturn, 1) := by decide +kernel
theorem dFloating_calculated_67 : decode cFloating_calculated 67 = .ok (.aload_n 1, 1) := by decide +kernel
theorem dFloating_calculated_68 : decode cFloating_calculated 68 = .ok (.lload_n 2, 1) := by decide +kernel
theorem dFloating_calculated_69 : decode cFloating_calculated 69 = .ok (.invokestatic 51, 3) := by decide +kernel
theorem dFloating_calculated_72 : decode cFloating_calculated 72 = .ok (.lreturn, 1) := by decide +kernel
theorem dFloating_calculated_73 : decode cFloating_calculated 73 = .ok (.aload_n 1, 1) := by decide +kernel
theorem dFloating_calculated_74 : decode cFloating_calculated 74 = .ok (.lload_n 2, 1) := by decide +kernel
theorem dFloating_calculated_75 : decode cFloating_calculated 75 = .ok (.lload 4, 2) := by decide +kernel
theorem dFloating_calculated_77 : decode cFloating_calculated 77 = .ok (.invokestatic 54, 3) := by decide +kernel
theorem dFloating_calculated_80 : decode cFloating_calculated 80 = .ok (.lreturn, 1) := by decide +kernel
theorem dFloating_calculated_81 : decode cFloating_calculated 81 = .ok (.aload_n 1, 1) := by decide +kernel
theorem dFloating_calculated_82 : decode cFloating_calculated 82 = .ok (.lload_n 2, 1) := by decide +kernel
theorem dFloating_calculated_83 : decode cFloating_calculated 83 = .ok (.lload 4, 2) := by decide +kernel
theorem dFloating_calculated_85 : decode cFloating_calculated 85 = .ok (.aload_n 1, 1) := by decide +kernel
theorem dFloating_calculated_86 : decode cFloating_calculated 86 = .ok (.getfield 29, 3) := by decide +kernel
theorem dFloating_calculated_89 : decode cFloating_calculated 89 = .ok (.lxor, 1) := by decide +kernel
theorem dFloating_calculated_90 : decode cFloating_calculated 90 = .ok (.invokestatic 54, 3) := by decide +kernel
theorem dFloating_calculated_93 : decode cFloating_calculated 93 = .ok (.lreturn, 1) := by decide +kernel
theorem dFloating_calculated_94 : decode cFloating_calculated 94 = .ok (.aload_n 1, 1) := by decide +kernel
theorem dFloating_calculated_95 : decode cFloating_calculated 95 = .ok (.lload_n 2, 1) := by decide +kernel
theorem dFloating_calculated_96 : decode cFloating_calculated 96 = .ok (.lload 4, 2) := by decide +kernel
theorem dFloating_calculated_98 : decode cFloating_calculated 98 = .ok (.invokestatic 58, 3) := by decide +kernel
theorem dFloating_calculated_101 : decode cFloating_calculated 101 = .ok (.lreturn, 1) := by decide +kernel
theorem dFloating_calculated_102 : decode cFloating_calculated 102 = .ok (.aload_n 1, 1) := by decide +kernel
theorem dFloating_calculated_103 : decode cFloating_calculated 103 = .ok (.lload_n 2, 1) := by decide +kernel
theorem dFloating_calculated_104 : decode cFloating_calculated 104 = .ok (.lload 4, 2) := by decide +kernel
theorem dFloating_calculated_106 : decode cFloating_calculated 106 = .ok (.invokestatic 61, 3) := by decide +kernel
theorem dFloating_calculated_109 : decode cFloating_calculated 109 = .ok (.lreturn, 1) := by decide +kernel
theorem dFloating_calculated_110 : decode cFloating_calculated 110 = .ok (.aload_n 1, 1) := by decide +kernel
theorem dFloating_calculated_111 : decode cFloating_calculated 111 = .ok (.lload_n 2, 1) := by decide +kernel
theorem dFloating_calculated_112 : decode cFloating_calculated 112 = .ok (.invokestatic 64, 3) := by decide +kernel
theorem dFloating_calculated_115 : decode cFloating_calculated 115 = .ok (.aload_n 1, 1) := by decide +kernel
theorem dFloating_calculated_116 : decode cFloating_calculated 116 = .ok (.lload 4, 2) := by decide +kernel
theorem dFloating_calculated_118 : decode cFloating_calculated 118 = .ok (.invokestatic 64, 3) := by decide +kernel
theorem dFloating_calculated_121 : decode cFloating_calculated 121 = .ok (.lcmp, 1) := by decide +kernel
theorem dFloating_calculated_122 : decode cFloating_calculated 122 = .ok (.ifCond .gt 7, 3) := by decide +kernel
theorem dFloating_calculated_125 : decode cFloating_calculated 125 = .ok (.lload_n 2, 1) := by decide +kernel
theorem dFloating_calculated_126 : decode cFloating_calculated 126 = .ok (.goto 5, 3) := by decide +kernel
theorem dFloating_calculated_129 : decode cFloating_calculated 129 = .ok (.lload 4, 2) := by decide +kernel
theorem dFloating_calculated_131 : decode cFloating_calculated 131 = .ok (.lreturn, 1) := by decide +kernel
theorem dFloating_calculated_132 : decode cFloating_calculated 132 = .ok (.aload_n 1, 1) := by decide +kernel
theorem dFloating_calculated_133 : decode cFloating_calculated 133 = .ok (.lload_n 2, 1) := by decide +kernel
theorem dFloating_calculated_134 : decode cFloating_calculated 134 = .ok (.invokestatic 64, 3) := by decide +kernel
theorem dFloating_calculated_137 : decode cFloating_calculated 137 = .ok (.aload_n 1, 1) := by decide +kernel
theorem dFloating_calculated_138 : decode cFloating_calculated 138 = .ok (.lload 4, 2) := by decide +kernel
theorem dFloating_calculated_140 : decode cFloating_calculated 140 = .ok (.invokestatic 64, 3) := by decide +kernel
theorem dFloating_calculated_143 : decode cFloating_calculated 143 = .ok (.lcmp, 1) := by decide +kernel
theorem dFloating_calculated_144 : decode cFloating_calculated 144 = .ok (.ifCond .lt 7, 3) := by decide +kernel
theorem dFloating_calculated_147 : decode cFloating_calculated 147 = .ok (.lload_n 2, 1) := by decide +kernel
theorem dFloating_calculated_148 : decode cFloating_calculated 148 = .ok (.goto 5, 3) := by decide +kernel
theorem dFloating_calculated_151 : decode cFloating_calculated 151 = .ok (.lload 4, 2) := by decide +kernel
theorem dFloating_calculated_153 : decode cFloating_calculated 153 = .ok (.lreturn, 1) := by decide +kernel
theorem dFloating_calculated_154 : decode cFloating_calculated 154 = .ok (.lload_n 2, 1) := by decide +kernel
theorem dFloating_calculated_155 : decode cFloating_calculated 155 = .ok (.lreturn, 1) := by decide +kernel
theorem dFloating_result_0 : decode cFloating_result 0 = .ok (.iload_n 0, 1) := by decide +kernel
theorem dFloating_result_1 : decode cFloating_result 1 = .ok (.lookupswitch 64 #[(0, 35), (1, 41), (13, 48)], 35) := by decide +kernel
theorem dFloating_result_36 : decode cFloating_result 36 = .ok (.aload_n 1, 1) := by decide +kernel
theorem dFloating_result_37 : decode cFloating_result 37 = .ok (.lload_n 2, 1) := by decide +kernel
theorem dFloating_result_38 : decode cFloating_result 38 = .ok (.invokevirtual 25, 3) := by decide +kernel
theorem dFloating_result_41 : decode cFloating_result 41 = .ok (.lreturn, 1) := by decide +kernel
theorem dFloating_result_42 : decode cFloating_result 42 = .ok (.lload_n 2, 1) := by decide +kernel
theorem dFloating_result_43 : decode cFloating_result 43 = .ok (.aload_n 1, 1) := by decide +kernel
theorem dFloating_result_44 : decode cFloating_result 44 = .ok (.getfield 29, 3) := by decide +kernel
theorem dFloating_result_47 : decode cFloating_result 47 = .ok (.lxor, 1) := by decide +kernel
theorem dFloating_result_48 : decode cFloating_result 48 = .ok (.lreturn, 1) := by decide +kernel
theorem dFloating_result_49 : decode cFloating_result 49 = .ok (.aload_n 1, 1) := by decide +kernel
theorem dFloating_result_50 : decode cFloating_result 50 = .ok (.aload_n 1, 1) := by decide +kernel
theorem dFloating_result_51 : decode cFloating_result 51 = .ok (.lload 4, 2) := by decide +kernel
theorem dFloating_result_53 : decode cFloating_result 53 = .ok (.invokevirtual 33, 3) := by decide +kernel
theorem dFloating_result_56 : decode cFloating_result 56 = .ok (.aload_n 1, 1) := by decide +kernel
theorem dFloating_result_57 : decode cFloating_result 57 = .ok (.lload_n 2, 1) := by decide +kernel
theorem dFloating_result_58 : decode cFloating_result 58 = .ok (.invokevirtual 25, 3) := by decide +kernel
theorem dFloating_result_61 : decode cFloating_result 61 = .ok (.invokevirtual 36, 3) := by decide +kernel
theorem dFloating_result_64 : decode cFloating_result 64 = .ok (.lreturn, 1) := by decide +kernel
theorem dFloating_result_65 : decode cFloating_result 65 = .ok (.aload_n 1, 1) := by decide +kernel
theorem dFloating_result_66 : decode cFloating_result 66 = .ok (.lload_n 2, 1) := by decide +kernel
theorem dFloating_result_67 : decode cFloating_result 67 = .ok (.invokevirtual 7, 3) := by decide +kernel
theorem dFloating_result_70 : decode cFloating_result 70 = .ok (.ifCond .ne 12, 3) := by decide +kernel
theorem dFloating_result_73 : decode cFloating_result 73 = .ok (.aload_n 1, 1) := by decide +kernel
theorem dFloating_result_74 : decode cFloating_result 74 = .ok (.lload 4, 2) := by decide +kernel
theorem dFloating_result_76 : decode cFloating_result 76 = .ok (.invokevirtual 7, 3) := by decide +kernel
theorem dFloating_result_79 : decode cFloating_result 79 = .ok (.ifCond .eq 10, 3) := by decide +kernel
theorem dFloating_result_82 : decode cFloating_result 82 = .ok (.aload_n 1, 1) := by decide +kernel
theorem dFloating_result_83 : decode cFloating_result 83 = .ok (.getfield 40, 3) := by decide +kernel
theorem dFloating_result_86 : decode cFloating_result 86 = .ok (.goto 11, 3) := by decide +kernel
theorem dFloating_result_89 : decode cFloating_result 89 = .ok (.iload_n 0, 1) := by decide +kernel
theorem dFloating_result_90 : decode cFloating_result 90 = .ok (.aload_n 1, 1) := by decide +kernel
theorem dFloating_result_91 : decode cFloating_result 91 = .ok (.lload_n 2, 1) := by decide +kernel
theorem dFloating_result_92 : decode cFloating_result 92 = .ok (.lload 4, 2) := by decide +kernel
theorem dFloating_result_94 : decode cFloating_result 94 = .ok (.invokestatic 43, 3) := by decide +kernel
theorem dFloating_result_97 : decode cFloating_result 97 = .ok (.lreturn, 1) := by decide +kernel
theorem dFormat_kind_0 : decode cFormat_kind 0 = .ok (.aload_n 0, 1) := by decide +kernel
theorem dFormat_kind_1 : decode cFormat_kind 1 = .ok (.lload_n 1, 1) := by decide +kernel
theorem dFormat_kind_2 : decode cFormat_kind 2 = .ok (.invokevirtual 58, 3) := by decide +kernel
theorem dFormat_kind_5 : decode cFormat_kind 5 = .ok (.ifCond .eq 5, 3) := by decide +kernel
theorem dFormat_kind_8 : decode cFormat_kind 8 = .ok (.iconst 4, 1) := by decide +kernel
theorem dFormat_kind_9 : decode cFormat_kind 9 = .ok (.ireturn, 1) := by decide +kernel
theorem dFormat_kind_10 : decode cFormat_kind 10 = .ok (.aload_n 0, 1) := by decide +kernel
theorem dFormat_kind_11 : decode cFormat_kind 11 = .ok (.lload_n 1, 1) := by decide +kernel
theorem dFormat_kind_12 : decode cFormat_kind 12 = .ok (.invokevirtual 62, 3) := by decide +kernel
theorem dFormat_kind_15 : decode cFormat_kind 15 = .ok (.ifCond .eq 5, 3) := by decide +kernel
theorem dFormat_kind_18 : decode cFormat_kind 18 = .ok (.iconst 3, 1) := by decide +kernel
theorem dFormat_kind_19 : decode cFormat_kind 19 = .ok (.ireturn, 1) := by decide +kernel
theorem dFormat_kind_20 : decode cFormat_kind 20 = .ok (.aload_n 0, 1) := by decide +kernel
theorem dFormat_kind_21 : decode cFormat_kind 21 = .ok (.lload_n 1, 1) := by decide +kernel
theorem dFormat_kind_22 : decode cFormat_kind 22 = .ok (.invokevirtual 65, 3) := by decide +kernel
theorem dFormat_kind_25 : decode cFormat_kind 25 = .ok (.ifCond .eq 5, 3) := by decide +kernel
theorem dFormat_kind_28 : decode cFormat_kind 28 = .ok (.iconst 0, 1) := by decide +kernel
theorem dFormat_kind_29 : decode cFormat_kind 29 = .ok (.ireturn, 1) := by decide +kernel
theorem dFormat_kind_30 : decode cFormat_kind 30 = .ok (.aload_n 0, 1) := by decide +kernel
theorem dFormat_kind_31 : decode cFormat_kind 31 = .ok (.lload_n 1, 1) := by decide +kernel
theorem dFormat_kind_32 : decode cFormat_kind 32 = .ok (.invokevirtual 68, 3) := by decide +kernel
theorem dFormat_kind_35 : decode cFormat_kind 35 = .ok (.ifCond .ne 7, 3) := by decide +kernel
theorem dFormat_kind_38 : decode cFormat_kind 38 = .ok (.iconst 1, 1) := by decide +kernel
theorem dFormat_kind_39 : decode cFormat_kind 39 = .ok (.goto 4, 3) := by decide +kernel
theorem dFormat_kind_42 : decode cFormat_kind 42 = .ok (.iconst 2, 1) := by decide +kernel
theorem dFormat_kind_43 : decode cFormat_kind 43 = .ok (.ireturn, 1) := by decide +kernel
theorem dOperators_exists_0 : decode cOperators_exists 0 = .ok (.iload_n 0, 1) := by decide +kernel
theorem dOperators_exists_1 : decode cOperators_exists 1 = .ok (.getstatic 9, 3) := by decide +kernel
theorem dOperators_exists_4 : decode cOperators_exists 4 = .ok (.iconst 0, 1) := by decide +kernel
theorem dOperators_exists_5 : decode cOperators_exists 5 = .ok (.iaload, 1) := by decide +kernel
theorem dOperators_exists_6 : decode cOperators_exists 6 = .ok (.if_icmp .lt 10, 3) := by decide +kernel
theorem dOperators_exists_9 : decode cOperators_exists 9 = .ok (.iload_n 0, 1) := by decide +kernel
theorem dOperators_exists_10 : decode cOperators_exists 10 = .ok (.sipush 196, 3) := by decide +kernel
theorem dOperators_exists_13 : decode cOperators_exists 13 = .ok (.if_icmp .le 17, 3) := by decide +kernel
theorem dOperators_exists_16 : decode cOperators_exists 16 = .ok (.iload_n 0, 1) := by decide +kernel
theorem dOperators_exists_17 : decode cOperators_exists 17 = .ok (.sipush 200, 3) := by decide +kernel
theorem dOperators_exists_20 : decode cOperators_exists 20 = .ok (.if_icmp .lt 14, 3) := by decide +kernel
theorem dOperators_exists_23 : decode cOperators_exists 23 = .ok (.iload_n 0, 1) := by decide +kernel
theorem dOperators_exists_24 : decode cOperators_exists 24 = .ok (.sipush 207, 3) := by decide +kernel
theorem dOperators_exists_27 : decode cOperators_exists 27 = .ok (.if_icmp .gt 7, 3) := by decide +kernel
theorem dOperators_exists_30 : decode cOperators_exists 30 = .ok (.iconst 1, 1) := by decide +kernel
theorem dOperators_exists_31 : decode cOperators_exists 31 = .ok (.goto 4, 3) := by decide +kernel
theorem dOperators_exists_34 : decode cOperators_exists 34 = .ok (.iconst 0, 1) := by decide +kernel
theorem dOperators_exists_35 : decode cOperators_exists 35 = .ok (.ireturn, 1) := by decide +kernel
theorem dOperators_family_0 : decode cOperators_family 0 = .ok (.iconst 0, 1) := by decide +kernel
theorem dOperators_family_1 : decode cOperators_family 1 = .ok (.istore_n 1, 1) := by decide +kernel
theorem dOperators_family_2 : decode cOperators_family 2 = .ok (.iconst 1, 1) := by decide +kernel
theorem dOperators_family_3 : decode cOperators_family 3 = .ok (.istore_n 2, 1) := by decide +kernel
theorem dOperators_family_4 : decode cOperators_family 4 = .ok (.iload_n 2, 1) := by decide +kernel
theorem dOperators_family_5 : decode cOperators_family 5 = .ok (.getstatic 9, 3) := by decide +kernel
theorem dOperators_family_8 : decode cOperators_family 8 = .ok (.arraylength, 1) := by decide +kernel
theorem dOperators_family_9 : decode cOperators_family 9 = .ok (.if_icmp .ge 20, 3) := by decide +kernel
theorem dOperators_family_12 : decode cOperators_family 12 = .ok (.iload_n 0, 1) := by decide +kernel
theorem dOperators_family_13 : decode cOperators_family 13 = .ok (.getstatic 9, 3) := by decide +kernel
theorem dOperators_family_16 : decode cOperators_family 16 = .ok (.iload_n 2, 1) := by decide +kernel
theorem dOperators_family_17 : decode cOperators_family 17 = .ok (.iaload, 1) := by decide +kernel
theorem dOperators_family_18 : decode cOperators_family 18 = .ok (.if_icmp .lt 5, 3) := by decide +kernel
theorem dOperators_family_21 : decode cOperators_family 21 = .ok (.iload_n 2, 1) := by decide +kernel
theorem dOperators_family_22 : decode cOperators_family 22 = .ok (.istore_n 1, 1) := by decide +kernel
theorem dOperators_family_23 : decode cOperators_family 23 = .ok (.iinc 2 1, 3) := by decide +kernel
theorem dOperators_family_26 : decode cOperators_family 26 = .ok (.goto (-22), 3) := by decide +kernel
theorem dOperators_family_29 : decode cOperators_family 29 = .ok (.iload_n 1, 1) := by decide +kernel
theorem dOperators_family_30 : decode cOperators_family 30 = .ok (.ireturn, 1) := by decide +kernel
theorem dOperators_operands_0 : decode cOperators_operands 0 = .ok (.iload_n 0, 1) := by decide +kernel
theorem dOperators_operands_1 : decode cOperators_operands 1 = .ok (.invokestatic 15, 3) := by decide +kernel
theorem dOperators_operands_4 : decode cOperators_operands 4 = .ok (.istore_n 1, 1) := by decide +kernel
theorem dOperators_operands_5 : decode cOperators_operands 5 = .ok (.iload_n 0, 1) := by decide +kernel
theorem dOperators_operands_6 : decode cOperators_operands 6 = .ok (.getstatic 9, 3) := by decide +kernel
theorem dOperators_operands_9 : decode cOperators_operands 9 = .ok (.iload_n 1, 1) := by decide +kernel
theorem dOperators_operands_10 : decode cOperators_operands 10 = .ok (.iaload, 1) := by decide +kernel
theorem dOperators_operands_11 : decode cOperators_operands 11 = .ok (.isub, 1) := by decide +kernel
theorem dOperators_operands_12 : decode cOperators_operands 12 = .ok (.getstatic 19, 3) := by decide +kernel
theorem dOperators_operands_15 : decode cOperators_operands 15 = .ok (.iload_n 1, 1) := by decide +kernel
theorem dOperators_operands_16 : decode cOperators_operands 16 = .ok (.iaload, 1) := by decide +kernel
theorem dOperators_operands_17 : decode cOperators_operands 17 = .ok (.if_icmp .ge 7, 3) := by decide +kernel
theorem dOperators_operands_20 : decode cOperators_operands 20 = .ok (.iconst 1, 1) := by decide +kernel
theorem dOperators_operands_21 : decode cOperators_operands 21 = .ok (.goto 4, 3) := by decide +kernel
theorem dOperators_operands_24 : decode cOperators_operands 24 = .ok (.iconst 2, 1) := by decide +kernel
theorem dOperators_operands_25 : decode cOperators_operands 25 = .ok (.ireturn, 1) := by decide +kernel
theorem dOperators_typeIn_0 : decode cOperators_typeIn 0 = .ok (.iload_n 1, 1) := by decide +kernel
theorem dOperators_typeIn_1 : decode cOperators_typeIn 1 = .ok (.getstatic 9, 3) := by decide +kernel
theorem dOperators_typeIn_4 : decode cOperators_typeIn 4 = .ok (.bipush 8, 2) := by decide +kernel
theorem dOperators_typeIn_6 : decode cOperators_typeIn 6 = .ok (.iaload, 1) := by decide +kernel
theorem dOperators_typeIn_7 : decode cOperators_typeIn 7 = .ok (.isub, 1) := by decide +kernel
theorem dOperators_typeIn_8 : decode cOperators_typeIn 8 = .ok (.istore_n 2, 1) := by decide +kernel
theorem dOperators_typeIn_9 : decode cOperators_typeIn 9 = .ok (.iload_n 2, 1) := by decide +kernel
theorem dOperators_typeIn_10 : decode cOperators_typeIn 10 = .ok (.ifCond .lt 15, 3) := by decide +kernel
theorem dOperators_typeIn_13 : decode cOperators_typeIn 13 = .ok (.iload_n 2, 1) := by decide +kernel
theorem dOperators_typeIn_14 : decode cOperators_typeIn 14 = .ok (.aload_n 0, 1) := by decide +kernel
theorem dOperators_typeIn_15 : decode cOperators_typeIn 15 = .ok (.arraylength, 1) := by decide +kernel
theorem dOperators_typeIn_16 : decode cOperators_typeIn 16 = .ok (.if_icmp .ge 9, 3) := by decide +kernel
theorem dOperators_typeIn_19 : decode cOperators_typeIn 19 = .ok (.aload_n 0, 1) := by decide +kernel
theorem dOperators_typeIn_20 : decode cOperators_typeIn 20 = .ok (.iload_n 2, 1) := by decide +kernel
theorem dOperators_typeIn_21 : decode cOperators_typeIn 21 = .ok (.iaload, 1) := by decide +kernel
theorem dOperators_typeIn_22 : decode cOperators_typeIn 22 = .ok (.goto 4, 3) := by decide +kernel
theorem dOperators_typeIn_25 : decode cOperators_typeIn 25 = .ok (.iconst (-1), 1) := by decide +kernel
theorem dOperators_typeIn_26 : decode cOperators_typeIn 26 = .ok (.ireturn, 1) := by decide +kernel
theorem dOperators_operandType_0 : decode cOperators_operandType 0 = .ok (.iload_n 0, 1) := by decide +kernel
theorem dOperators_operandType_1 : decode cOperators_operandType 1 = .ok (.invokestatic 15, 3) := by decide +kernel
theorem dOperators_operandType_4 : decode cOperators_operandType 4 = .ok (.istore_n 1, 1) := by decide +kernel
theorem dOperators_operandType_5 : decode cOperators_operandType 5 = .ok (.iload_n 1, 1) := by decide +kernel
theorem dOperators_operandType_6 : decode cOperators_operandType 6 = .ok (.bipush 8, 2) := by decide +kernel
theorem dOperators_operandType_8 : decode cOperators_operandType 8 = .ok (.if_icmp .ge 9, 3) := by decide +kernel
theorem dOperators_operandType_11 : decode cOperators_operandType 11 = .ok (.iload_n 1, 1) := by decide +kernel
theorem dOperators_operandType_12 : decode cOperators_operandType 12 = .ok (.iconst 4, 1) := by decide +kernel
theorem dOperators_operandType_13 : decode cOperators_operandType 13 = .ok (.irem, 1) := by decide +kernel
theorem dOperators_operandType_14 : decode cOperators_operandType 14 = .ok (.goto 10, 3) := by decide +kernel
theorem dOperators_operandType_17 : decode cOperators_operandType 17 = .ok (.getstatic 22, 3) := by decide +kernel
theorem dOperators_operandType_20 : decode cOperators_operandType 20 = .ok (.iload_n 0, 1) := by decide +kernel
theorem dOperators_operandType_21 : decode cOperators_operandType 21 = .ok (.invokestatic 25, 3) := by decide +kernel
theorem dOperators_operandType_24 : decode cOperators_operandType 24 = .ok (.ireturn, 1) := by decide +kernel
theorem dOperators_resultType_0 : decode cOperators_resultType 0 = .ok (.iload_n 0, 1) := by decide +kernel
theorem dOperators_resultType_1 : decode cOperators_resultType 1 = .ok (.invokestatic 15, 3) := by decide +kernel
theorem dOperators_resultType_4 : decode cOperators_resultType 4 = .ok (.istore_n 1, 1) := by decide +kernel
theorem dOperators_resultType_5 : decode cOperators_resultType 5 = .ok (.iload_n 1, 1) := by decide +kernel
theorem dOperators_resultType_6 : decode cOperators_resultType 6 = .ok (.iconst 4, 1) := by decide +kernel
theorem dOperators_resultType_7 : decode cOperators_resultType 7 = .ok (.if_icmp .ge 5, 3) := by decide +kernel
theorem dOperators_resultType_10 : decode cOperators_resultType 10 = .ok (.iconst 0, 1) := by decide +kernel
theorem dOperators_resultType_11 : decode cOperators_resultType 11 = .ok (.ireturn, 1) := by decide +kernel
theorem dOperators_resultType_12 : decode cOperators_resultType 12 = .ok (.iload_n 1, 1) := by decide +kernel
theorem dOperators_resultType_13 : decode cOperators_resultType 13 = .ok (.bipush 8, 2) := by decide +kernel
theorem dOperators_resultType_15 : decode cOperators_resultType 15 = .ok (.if_icmp .ge 9, 3) := by decide +kernel
theorem dOperators_resultType_18 : decode cOperators_resultType 18 = .ok (.iload_n 1, 1) := by decide +kernel
theorem dOperators_resultType_19 : decode cOperators_resultType 19 = .ok (.iconst 4, 1) := by decide +kernel
theorem dOperators_resultType_20 : decode cOperators_resultType 20 = .ok (.irem, 1) := by decide +kernel
theorem dOperators_resultType_21 : decode cOperators_resultType 21 = .ok (.goto 10, 3) := by decide +kernel
theorem dOperators_resultType_24 : decode cOperators_resultType 24 = .ok (.getstatic 29, 3) := by decide +kernel
theorem dOperators_resultType_27 : decode cOperators_resultType 27 = .ok (.iload_n 0, 1) := by decide +kernel
theorem dOperators_resultType_28 : decode cOperators_resultType 28 = .ok (.invokestatic 25, 3) := by decide +kernel
theorem dOperators_resultType_31 : decode cOperators_resultType 31 = .ok (.ireturn, 1) := by decide +kernel
theorem dWhole_withoutSign_0 : decode cWhole_withoutSign 0 = .ok (.iload_n 0, 1) := by decide +kernel
theorem dWhole_withoutSign_1 : decode cWhole_withoutSign 1 = .ok (.ifCond .ne 11, 3) := by decide +kernel
theorem dWhole_withoutSign_4 : decode cWhole_withoutSign 4 = .ok (.lload_n 1, 1) := by decide +kernel
theorem dWhole_withoutSign_5 : decode cWhole_withoutSign 5 = .ok (.ldc2_w 9, 3) := by decide +kernel
theorem dWhole_withoutSign_8 : decode cWhole_withoutSign 8 = .ok (.land, 1) := by decide +kernel
theorem dWhole_withoutSign_9 : decode cWhole_withoutSign 9 = .ok (.goto 4, 3) := by decide +kernel
theorem dWhole_withoutSign_12 : decode cWhole_withoutSign 12 = .ok (.lload_n 1, 1) := by decide +kernel
theorem dWhole_withoutSign_13 : decode cWhole_withoutSign 13 = .ok (.lreturn, 1) := by decide +kernel
theorem dWhole_trapOf_0 : decode cWhole_trapOf 0 = .ok (.iload_n 0, 1) := by decide +kernel
theorem dWhole_trapOf_1 : decode cWhole_trapOf 1 = .ok (.bipush 6, 2) := by decide +kernel
theorem dWhole_trapOf_3 : decode cWhole_trapOf 3 = .ok (.if_icmp .lt 9, 3) := by decide +kernel
theorem dWhole_trapOf_6 : decode cWhole_trapOf 6 = .ok (.iload_n 0, 1) := by decide +kernel
theorem dWhole_trapOf_7 : decode cWhole_trapOf 7 = .ok (.bipush 9, 2) := by decide +kernel
theorem dWhole_trapOf_9 : decode cWhole_trapOf 9 = .ok (.if_icmp .le 5, 3) := by decide +kernel
theorem dWhole_trapOf_12 : decode cWhole_trapOf 12 = .ok (.iconst 0, 1) := by decide +kernel
theorem dWhole_trapOf_13 : decode cWhole_trapOf 13 = .ok (.ireturn, 1) := by decide +kernel
theorem dWhole_trapOf_14 : decode cWhole_trapOf 14 = .ok (.lload 4, 2) := by decide +kernel
theorem dWhole_trapOf_16 : decode cWhole_trapOf 16 = .ok (.lconst 0, 1) := by decide +kernel
theorem dWhole_trapOf_17 : decode cWhole_trapOf 17 = .ok (.lcmp, 1) := by decide +kernel
theorem dWhole_trapOf_18 : decode cWhole_trapOf 18 = .ok (.ifCond .ne 5, 3) := by decide +kernel
theorem dWhole_trapOf_21 : decode cWhole_trapOf 21 = .ok (.iconst 1, 1) := by decide +kernel
theorem dWhole_trapOf_22 : decode cWhole_trapOf 22 = .ok (.ireturn, 1) := by decide +kernel
theorem dWhole_trapOf_23 : decode cWhole_trapOf 23 = .ok (.iload_n 1, 1) := by decide +kernel
theorem dWhole_trapOf_24 : decode cWhole_trapOf 24 = .ok (.iload_n 1, 1) := by decide +kernel
theorem dWhole_trapOf_25 : decode cWhole_trapOf 25 = .ok (.iconst 1, 1) := by decide +kernel
theorem dWhole_trapOf_26 : decode cWhole_trapOf 26 = .ok (.invokestatic 38, 3) := by decide +kernel
theorem dWhole_trapOf_29 : decode cWhole_trapOf 29 = .ok (.lconst 1, 1) := by decide +kernel
theorem dWhole_trapOf_30 : decode cWhole_trapOf 30 = .ok (.ladd, 1) := by decide +kernel
theorem dWhole_trapOf_31 : decode cWhole_trapOf 31 = .ok (.invokestatic 42, 3) := by decide +kernel
theorem dWhole_trapOf_34 : decode cWhole_trapOf 34 = .ok (.lstore 6, 2) := by decide +kernel
theorem dWhole_trapOf_36 : decode cWhole_trapOf 36 = .ok (.iload_n 0, 1) := by decide +kernel
theorem dWhole_trapOf_37 : decode cWhole_trapOf 37 = .ok (.bipush 6, 2) := by decide +kernel
theorem dWhole_trapOf_39 : decode cWhole_trapOf 39 = .ok (.if_icmp .ne 27, 3) := by decide +kernel
theorem dWhole_trapOf_42 : decode cWhole_trapOf 42 = .ok (.lload_n 2, 1) := by decide +kernel
theorem dWhole_trapOf_43 : decode cWhole_trapOf 43 = .ok (.lload 6, 2) := by decide +kernel
theorem dWhole_trapOf_45 : decode cWhole_trapOf 45 = .ok (.lcmp, 1) := by decide +kernel
theorem dWhole_trapOf_46 : decode cWhole_trapOf 46 = .ok (.ifCond .ne 20, 3) := by decide +kernel
theorem dWhole_trapOf_49 : decode cWhole_trapOf 49 = .ok (.iload_n 1, 1) := by decide +kernel
theorem dWhole_trapOf_50 : decode cWhole_trapOf 50 = .ok (.lload 4, 2) := by decide +kernel
theorem dWhole_trapOf_52 : decode cWhole_trapOf 52 = .ok (.invokestatic 31, 3) := by decide +kernel
theorem dWhole_trapOf_55 : decode cWhole_trapOf 55 = .ok (.ldc2_w 11, 3) := by decide +kernel
theorem dWhole_trapOf_58 : decode cWhole_trapOf 58 = .ok (.lcmp, 1) := by decide +kernel
theorem dWhole_trapOf_59 : decode cWhole_trapOf 59 = .ok (.ifCond .ne 7, 3) := by decide +kernel
theorem dWhole_trapOf_62 : decode cWhole_trapOf 62 = .ok (.iconst 1, 1) := by decide +kernel
theorem dWhole_trapOf_63 : decode cWhole_trapOf 63 = .ok (.goto 4, 3) := by decide +kernel
theorem dWhole_trapOf_66 : decode cWhole_trapOf 66 = .ok (.iconst 0, 1) := by decide +kernel
theorem dWhole_trapOf_67 : decode cWhole_trapOf 67 = .ok (.istore 8, 2) := by decide +kernel
theorem dWhole_trapOf_69 : decode cWhole_trapOf 69 = .ok (.iload 8, 2) := by decide +kernel
theorem dWhole_trapOf_71 : decode cWhole_trapOf 71 = .ok (.ifCond .eq 7, 3) := by decide +kernel
theorem dWhole_trapOf_74 : decode cWhole_trapOf 74 = .ok (.iconst 2, 1) := by decide +kernel
theorem dWhole_trapOf_75 : decode cWhole_trapOf 75 = .ok (.goto 4, 3) := by decide +kernel
theorem dWhole_trapOf_78 : decode cWhole_trapOf 78 = .ok (.iconst 0, 1) := by decide +kernel
theorem dWhole_trapOf_79 : decode cWhole_trapOf 79 = .ok (.ireturn, 1) := by decide +kernel
theorem dOperators_trapOf_0 : decode cOperators_trapOf 0 = .ok (.iload_n 0, 1) := by decide +kernel
theorem dOperators_trapOf_1 : decode cOperators_trapOf 1 = .ok (.invokestatic 15, 3) := by decide +kernel
theorem dOperators_trapOf_4 : decode cOperators_trapOf 4 = .ok (.istore 5, 2) := by decide +kernel
theorem dOperators_trapOf_6 : decode cOperators_trapOf 6 = .ok (.iload_n 0, 1) := by decide +kernel
theorem dOperators_trapOf_7 : decode cOperators_trapOf 7 = .ok (.invokestatic 32, 3) := by decide +kernel
theorem dOperators_trapOf_10 : decode cOperators_trapOf 10 = .ok (.istore 6, 2) := by decide +kernel
theorem dOperators_trapOf_12 : decode cOperators_trapOf 12 = .ok (.iload 5, 2) := by decide +kernel
theorem dOperators_trapOf_14 : decode cOperators_trapOf 14 = .ok (.iconst 4, 1) := by decide +kernel
theorem dOperators_trapOf_15 : decode cOperators_trapOf 15 = .ok (.if_icmp .eq 9, 3) := by decide +kernel
theorem dOperators_trapOf_18 : decode cOperators_trapOf 18 = .ok (.iload 5, 2) := by decide +kernel
theorem dOperators_trapOf_20 : decode cOperators_trapOf 20 = .ok (.iconst 5, 1) := by decide +kernel
theorem dOperators_trapOf_21 : decode cOperators_trapOf 21 = .ok (.if_icmp .ne 19, 3) := by decide +kernel
theorem dOperators_trapOf_24 : decode cOperators_trapOf 24 = .ok (.iload_n 0, 1) := by decide +kernel
theorem dOperators_trapOf_25 : decode cOperators_trapOf 25 = .ok (.getstatic 9, 3) := by decide +kernel
theorem dOperators_trapOf_28 : decode cOperators_trapOf 28 = .ok (.iload 5, 2) := by decide +kernel
theorem dOperators_trapOf_30 : decode cOperators_trapOf 30 = .ok (.iaload, 1) := by decide +kernel
theorem dOperators_trapOf_31 : decode cOperators_trapOf 31 = .ok (.isub, 1) := by decide +kernel
theorem dOperators_trapOf_32 : decode cOperators_trapOf 32 = .ok (.iload 6, 2) := by decide +kernel
theorem dOperators_trapOf_34 : decode cOperators_trapOf 34 = .ok (.lload_n 1, 1) := by decide +kernel
theorem dOperators_trapOf_35 : decode cOperators_trapOf 35 = .ok (.lload_n 3, 1) := by decide +kernel
theorem dOperators_trapOf_36 : decode cOperators_trapOf 36 = .ok (.invokestatic 35, 3) := by decide +kernel
theorem dOperators_trapOf_39 : decode cOperators_trapOf 39 = .ok (.ireturn, 1) := by decide +kernel
theorem dOperators_trapOf_40 : decode cOperators_trapOf 40 = .ok (.iload 5, 2) := by decide +kernel
theorem dOperators_trapOf_42 : decode cOperators_trapOf 42 = .ok (.bipush 8, 2) := by decide +kernel
theorem dOperators_trapOf_44 : decode cOperators_trapOf 44 = .ok (.if_icmp .ne 32, 3) := by decide +kernel
theorem dOperators_trapOf_47 : decode cOperators_trapOf 47 = .ok (.iload_n 0, 1) := by decide +kernel
theorem dOperators_trapOf_48 : decode cOperators_trapOf 48 = .ok (.sipush 200, 3) := by decide +kernel
theorem dOperators_trapOf_51 : decode cOperators_trapOf 51 = .ok (.if_icmp .ge 25, 3) := by decide +kernel
theorem dOperators_trapOf_54 : decode cOperators_trapOf 54 = .ok (.iload_n 0, 1) := by decide +kernel
theorem dOperators_trapOf_55 : decode cOperators_trapOf 55 = .ok (.invokestatic 41, 3) := by decide +kernel
theorem dOperators_trapOf_58 : decode cOperators_trapOf 58 = .ok (.ifCond .eq 18, 3) := by decide +kernel
theorem dOperators_trapOf_61 : decode cOperators_trapOf 61 = .ok (.iload_n 0, 1) := by decide +kernel
theorem dOperators_trapOf_62 : decode cOperators_trapOf 62 = .ok (.iload 6, 2) := by decide +kernel
theorem dOperators_trapOf_64 : decode cOperators_trapOf 64 = .ok (.invokestatic 47, 3) := by decide +kernel
theorem dOperators_trapOf_67 : decode cOperators_trapOf 67 = .ok (.iload_n 0, 1) := by decide +kernel
theorem dOperators_trapOf_68 : decode cOperators_trapOf 68 = .ok (.invokestatic 53, 3) := by decide +kernel
theorem dOperators_trapOf_71 : decode cOperators_trapOf 71 = .ok (.lload_n 1, 1) := by decide +kernel
theorem dOperators_trapOf_72 : decode cOperators_trapOf 72 = .ok (.invokestatic 56, 3) := by decide +kernel
theorem dOperators_trapOf_75 : decode cOperators_trapOf 75 = .ok (.ireturn, 1) := by decide +kernel
theorem dOperators_trapOf_76 : decode cOperators_trapOf 76 = .ok (.iconst 0, 1) := by decide +kernel
theorem dOperators_trapOf_77 : decode cOperators_trapOf 77 = .ok (.ireturn, 1) := by decide +kernel
theorem dWhole_test_0 : decode cWhole_test 0 = .ok (.iload_n 1, 1) := by decide +kernel
theorem dWhole_test_1 : decode cWhole_test 1 = .ok (.lload_n 2, 1) := by decide +kernel
theorem dWhole_test_2 : decode cWhole_test 2 = .ok (.invokestatic 31, 3) := by decide +kernel
theorem dWhole_test_5 : decode cWhole_test 5 = .ok (.iload_n 1, 1) := by decide +kernel
theorem dWhole_test_6 : decode cWhole_test 6 = .ok (.lload 4, 2) := by decide +kernel
theorem dWhole_test_8 : decode cWhole_test 8 = .ok (.invokestatic 31, 3) := by decide +kernel
theorem dWhole_test_11 : decode cWhole_test 11 = .ok (.invokestatic 21, 3) := by decide +kernel
theorem dWhole_test_14 : decode cWhole_test 14 = .ok (.istore 6, 2) := by decide +kernel
theorem dWhole_test_16 : decode cWhole_test 16 = .ok (.lload_n 2, 1) := by decide +kernel
theorem dWhole_test_17 : decode cWhole_test 17 = .ok (.lload 4, 2) := by decide +kernel
theorem dWhole_test_19 : decode cWhole_test 19 = .ok (.invokestatic 35, 3) := by decide +kernel
theorem dWhole_test_22 : decode cWhole_test 22 = .ok (.istore 7, 2) := by decide +kernel
theorem dWhole_test_24 : decode cWhole_test 24 = .ok (.iload_n 0, 1) := by decide +kernel
theorem dWhole_test_25 : decode cWhole_test 25 = .ok (.tableswitch 185 0 10 #[59, 71, 84, 97, 108, 119, 130, 141, 152, 163, 174], 59) := by decide +kernel
theorem dWhole_test_84 : decode cWhole_test 84 = .ok (.lload_n 2, 1) := by decide +kernel
theorem dWhole_test_85 : decode cWhole_test 85 = .ok (.lconst 0, 1) := by decide +kernel
theorem dWhole_test_86 : decode cWhole_test 86 = .ok (.lcmp, 1) := by decide +kernel
theorem dWhole_test_87 : decode cWhole_test 87 = .ok (.ifCond .ne 7, 3) := by decide +kernel
theorem dWhole_test_90 : decode cWhole_test 90 = .ok (.iconst 1, 1) := by decide +kernel
theorem dWhole_test_91 : decode cWhole_test 91 = .ok (.goto 4, 3) := by decide +kernel
theorem dWhole_test_94 : decode cWhole_test 94 = .ok (.iconst 0, 1) := by decide +kernel
theorem dWhole_test_95 : decode cWhole_test 95 = .ok (.ireturn, 1) := by decide +kernel
theorem dWhole_test_96 : decode cWhole_test 96 = .ok (.lload_n 2, 1) := by decide +kernel
theorem dWhole_test_97 : decode cWhole_test 97 = .ok (.lload 4, 2) := by decide +kernel
theorem dWhole_test_99 : decode cWhole_test 99 = .ok (.lcmp, 1) := by decide +kernel
theorem dWhole_test_100 : decode cWhole_test 100 = .ok (.ifCond .ne 7, 3) := by decide +kernel
theorem dWhole_test_103 : decode cWhole_test 103 = .ok (.iconst 1, 1) := by decide +kernel
theorem dWhole_test_104 : decode cWhole_test 104 = .ok (.goto 4, 3) := by decide +kernel
theorem dWhole_test_107 : decode cWhole_test 107 = .ok (.iconst 0, 1) := by decide +kernel
theorem dWhole_test_108 : decode cWhole_test 108 = .ok (.ireturn, 1) := by decide +kernel
theorem dWhole_test_109 : decode cWhole_test 109 = .ok (.lload_n 2, 1) := by decide +kernel
theorem dWhole_test_110 : decode cWhole_test 110 = .ok (.lload 4, 2) := by decide +kernel
theorem dWhole_test_112 : decode cWhole_test 112 = .ok (.lcmp, 1) := by decide +kernel
theorem dWhole_test_113 : decode cWhole_test 113 = .ok (.ifCond .eq 7, 3) := by decide +kernel
theorem dWhole_test_116 : decode cWhole_test 116 = .ok (.iconst 1, 1) := by decide +kernel
theorem dWhole_test_117 : decode cWhole_test 117 = .ok (.goto 4, 3) := by decide +kernel
theorem dWhole_test_120 : decode cWhole_test 120 = .ok (.iconst 0, 1) := by decide +kernel
theorem dWhole_test_121 : decode cWhole_test 121 = .ok (.ireturn, 1) := by decide +kernel
theorem dWhole_test_122 : decode cWhole_test 122 = .ok (.iload 6, 2) := by decide +kernel
theorem dWhole_test_124 : decode cWhole_test 124 = .ok (.ifCond .ge 7, 3) := by decide +kernel
theorem dWhole_test_127 : decode cWhole_test 127 = .ok (.iconst 1, 1) := by decide +kernel
theorem dWhole_test_128 : decode cWhole_test 128 = .ok (.goto 4, 3) := by decide +kernel
theorem dWhole_test_131 : decode cWhole_test 131 = .ok (.iconst 0, 1) := by decide +kernel
theorem dWhole_test_132 : decode cWhole_test 132 = .ok (.ireturn, 1) := by decide +kernel
theorem dWhole_test_133 : decode cWhole_test 133 = .ok (.iload 7, 2) := by decide +kernel
theorem dWhole_test_135 : decode cWhole_test 135 = .ok (.ifCond .ge 7, 3) := by decide +kernel
theorem dWhole_test_138 : decode cWhole_test 138 = .ok (.iconst 1, 1) := by decide +kernel
theorem dWhole_test_139 : decode cWhole_test 139 = .ok (.goto 4, 3) := by decide +kernel
theorem dWhole_test_142 : decode cWhole_test 142 = .ok (.iconst 0, 1) := by decide +kernel
theorem dWhole_test_143 : decode cWhole_test 143 = .ok (.ireturn, 1) := by decide +kernel
theorem dWhole_test_144 : decode cWhole_test 144 = .ok (.iload 6, 2) := by decide +kernel
theorem dWhole_test_146 : decode cWhole_test 146 = .ok (.ifCond .le 7, 3) := by decide +kernel
theorem dWhole_test_149 : decode cWhole_test 149 = .ok (.iconst 1, 1) := by decide +kernel
theorem dWhole_test_150 : decode cWhole_test 150 = .ok (.goto 4, 3) := by decide +kernel
theorem dWhole_test_153 : decode cWhole_test 153 = .ok (.iconst 0, 1) := by decide +kernel
theorem dWhole_test_154 : decode cWhole_test 154 = .ok (.ireturn, 1) := by decide +kernel
theorem dWhole_test_155 : decode cWhole_test 155 = .ok (.iload 7, 2) := by decide +kernel
theorem dWhole_test_157 : decode cWhole_test 157 = .ok (.ifCond .le 7, 3) := by decide +kernel
theorem dWhole_test_160 : decode cWhole_test 160 = .ok (.iconst 1, 1) := by decide +kernel
theorem dWhole_test_161 : decode cWhole_test 161 = .ok (.goto 4, 3) := by decide +kernel
theorem dWhole_test_164 : decode cWhole_test 164 = .ok (.iconst 0, 1) := by decide +kernel
theorem dWhole_test_165 : decode cWhole_test 165 = .ok (.ireturn, 1) := by decide +kernel
theorem dWhole_test_166 : decode cWhole_test 166 = .ok (.iload 6, 2) := by decide +kernel
theorem dWhole_test_168 : decode cWhole_test 168 = .ok (.ifCond .gt 7, 3) := by decide +kernel
theorem dWhole_test_171 : decode cWhole_test 171 = .ok (.iconst 1, 1) := by decide +kernel
theorem dWhole_test_172 : decode cWhole_test 172 = .ok (.goto 4, 3) := by decide +kernel
theorem dWhole_test_175 : decode cWhole_test 175 = .ok (.iconst 0, 1) := by decide +kernel
theorem dWhole_test_176 : decode cWhole_test 176 = .ok (.ireturn, 1) := by decide +kernel
theorem dWhole_test_177 : decode cWhole_test 177 = .ok (.iload 7, 2) := by decide +kernel
theorem dWhole_test_179 : decode cWhole_test 179 = .ok (.ifCond .gt 7, 3) := by decide +kernel
theorem dWhole_test_182 : decode cWhole_test 182 = .ok (.iconst 1, 1) := by decide +kernel
theorem dWhole_test_183 : decode cWhole_test 183 = .ok (.goto 4, 3) := by decide +kernel
theorem dWhole_test_186 : decode cWhole_test 186 = .ok (.iconst 0, 1) := by decide +kernel
theorem dWhole_test_187 : decode cWhole_test 187 = .ok (.ireturn, 1) := by decide +kernel
theorem dWhole_test_188 : decode cWhole_test 188 = .ok (.iload 6, 2) := by decide +kernel
theorem dWhole_test_190 : decode cWhole_test 190 = .ok (.ifCond .lt 7, 3) := by decide +kernel
theorem dWhole_test_193 : decode cWhole_test 193 = .ok (.iconst 1, 1) := by decide +kernel
theorem dWhole_test_194 : decode cWhole_test 194 = .ok (.goto 4, 3) := by decide +kernel
theorem dWhole_test_197 : decode cWhole_test 197 = .ok (.iconst 0, 1) := by decide +kernel
theorem dWhole_test_198 : decode cWhole_test 198 = .ok (.ireturn, 1) := by decide +kernel
theorem dWhole_test_199 : decode cWhole_test 199 = .ok (.iload 7, 2) := by decide +kernel
theorem dWhole_test_201 : decode cWhole_test 201 = .ok (.ifCond .lt 7, 3) := by decide +kernel
theorem dWhole_test_204 : decode cWhole_test 204 = .ok (.iconst 1, 1) := by decide +kernel
theorem dWhole_test_205 : decode cWhole_test 205 = .ok (.goto 4, 3) := by decide +kernel
theorem dWhole_test_208 : decode cWhole_test 208 = .ok (.iconst 0, 1) := by decide +kernel
theorem dWhole_test_209 : decode cWhole_test 209 = .ok (.ireturn, 1) := by decide +kernel
theorem dWhole_test_210 : decode cWhole_test 210 = .ok (.iconst 0, 1) := by decide +kernel
theorem dWhole_test_211 : decode cWhole_test 211 = .ok (.ireturn, 1) := by decide +kernel
theorem dWhole_quotientWithoutSign_0 : decode cWhole_quotientWithoutSign 0 = .ok (.lload_n 2, 1) := by decide +kernel
theorem dWhole_quotientWithoutSign_1 : decode cWhole_quotientWithoutSign 1 = .ok (.lconst 0, 1) := by decide +kernel
theorem dWhole_quotientWithoutSign_2 : decode cWhole_quotientWithoutSign 2 = .ok (.lcmp, 1) := by decide +kernel
theorem dWhole_quotientWithoutSign_3 : decode cWhole_quotientWithoutSign 3 = .ok (.ifCond .gt 17, 3) := by decide +kernel
theorem dWhole_quotientWithoutSign_6 : decode cWhole_quotientWithoutSign 6 = .ok (.lload_n 0, 1) := by decide +kernel
theorem dWhole_quotientWithoutSign_7 : decode cWhole_quotientWithoutSign 7 = .ok (.lload_n 2, 1) := by decide +kernel
theorem dWhole_quotientWithoutSign_8 : decode cWhole_quotientWithoutSign 8 = .ok (.invokestatic 35, 3) := by decide +kernel
theorem dWhole_quotientWithoutSign_11 : decode cWhole_quotientWithoutSign 11 = .ok (.ifCond .ge 7, 3) := by decide +kernel
theorem dWhole_quotientWithoutSign_14 : decode cWhole_quotientWithoutSign 14 = .ok (.lconst 0, 1) := by decide +kernel
theorem dWhole_quotientWithoutSign_15 : decode cWhole_quotientWithoutSign 15 = .ok (.goto 4, 3) := by decide +kernel
theorem dWhole_quotientWithoutSign_18 : decode cWhole_quotientWithoutSign 18 = .ok (.lconst 1, 1) := by decide +kernel
theorem dWhole_quotientWithoutSign_19 : decode cWhole_quotientWithoutSign 19 = .ok (.lreturn, 1) := by decide +kernel
theorem dWhole_quotientWithoutSign_20 : decode cWhole_quotientWithoutSign 20 = .ok (.lload_n 0, 1) := by decide +kernel
theorem dWhole_quotientWithoutSign_21 : decode cWhole_quotientWithoutSign 21 = .ok (.iconst 1, 1) := by decide +kernel
theorem dWhole_quotientWithoutSign_22 : decode cWhole_quotientWithoutSign 22 = .ok (.lushr, 1) := by decide +kernel
theorem dWhole_quotientWithoutSign_23 : decode cWhole_quotientWithoutSign 23 = .ok (.lload_n 2, 1) := by decide +kernel
theorem dWhole_quotientWithoutSign_24 : decode cWhole_quotientWithoutSign 24 = .ok (.ldiv, 1) := by decide +kernel
theorem dWhole_quotientWithoutSign_25 : decode cWhole_quotientWithoutSign 25 = .ok (.ldc2_w 60, 3) := by decide +kernel
theorem dWhole_quotientWithoutSign_28 : decode cWhole_quotientWithoutSign 28 = .ok (.lmul, 1) := by decide +kernel
theorem dWhole_quotientWithoutSign_29 : decode cWhole_quotientWithoutSign 29 = .ok (.lstore 4, 2) := by decide +kernel
theorem dWhole_quotientWithoutSign_31 : decode cWhole_quotientWithoutSign 31 = .ok (.lload_n 0, 1) := by decide +kernel
theorem dWhole_quotientWithoutSign_32 : decode cWhole_quotientWithoutSign 32 = .ok (.lload 4, 2) := by decide +kernel
theorem dWhole_quotientWithoutSign_34 : decode cWhole_quotientWithoutSign 34 = .ok (.lload_n 2, 1) := by decide +kernel
theorem dWhole_quotientWithoutSign_35 : decode cWhole_quotientWithoutSign 35 = .ok (.lmul, 1) := by decide +kernel
theorem dWhole_quotientWithoutSign_36 : decode cWhole_quotientWithoutSign 36 = .ok (.lsub, 1) := by decide +kernel
theorem dWhole_quotientWithoutSign_37 : decode cWhole_quotientWithoutSign 37 = .ok (.lload_n 2, 1) := by decide +kernel
theorem dWhole_quotientWithoutSign_38 : decode cWhole_quotientWithoutSign 38 = .ok (.invokestatic 35, 3) := by decide +kernel
theorem dWhole_quotientWithoutSign_41 : decode cWhole_quotientWithoutSign 41 = .ok (.ifCond .ge 8, 3) := by decide +kernel
theorem dWhole_quotientWithoutSign_44 : decode cWhole_quotientWithoutSign 44 = .ok (.lload 4, 2) := by decide +kernel
theorem dWhole_quotientWithoutSign_46 : decode cWhole_quotientWithoutSign 46 = .ok (.goto 7, 3) := by decide +kernel
theorem dWhole_quotientWithoutSign_49 : decode cWhole_quotientWithoutSign 49 = .ok (.lload 4, 2) := by decide +kernel
theorem dWhole_quotientWithoutSign_51 : decode cWhole_quotientWithoutSign 51 = .ok (.lconst 1, 1) := by decide +kernel
theorem dWhole_quotientWithoutSign_52 : decode cWhole_quotientWithoutSign 52 = .ok (.ladd, 1) := by decide +kernel
theorem dWhole_quotientWithoutSign_53 : decode cWhole_quotientWithoutSign 53 = .ok (.lreturn, 1) := by decide +kernel
theorem dWhole_divided_0 : decode cWhole_divided 0 = .ok (.iload_n 1, 1) := by decide +kernel
theorem dWhole_divided_1 : decode cWhole_divided 1 = .ok (.lload 4, 2) := by decide +kernel
theorem dWhole_divided_3 : decode cWhole_divided 3 = .ok (.invokestatic 31, 3) := by decide +kernel
theorem dWhole_divided_6 : decode cWhole_divided 6 = .ok (.lstore 6, 2) := by decide +kernel
theorem dWhole_divided_8 : decode cWhole_divided 8 = .ok (.lload 4, 2) := by decide +kernel
theorem dWhole_divided_10 : decode cWhole_divided 10 = .ok (.lconst 0, 1) := by decide +kernel
theorem dWhole_divided_11 : decode cWhole_divided 11 = .ok (.lcmp, 1) := by decide +kernel
theorem dWhole_divided_12 : decode cWhole_divided 12 = .ok (.ifCond .eq 10, 3) := by decide +kernel
theorem dWhole_divided_15 : decode cWhole_divided 15 = .ok (.lload 6, 2) := by decide +kernel
theorem dWhole_divided_17 : decode cWhole_divided 17 = .ok (.lconst 0, 1) := by decide +kernel
theorem dWhole_divided_18 : decode cWhole_divided 18 = .ok (.lcmp, 1) := by decide +kernel
theorem dWhole_divided_19 : decode cWhole_divided 19 = .ok (.ifCond .ne 5, 3) := by decide +kernel
theorem dWhole_divided_22 : decode cWhole_divided 22 = .ok (.lconst 0, 1) := by decide +kernel
theorem dWhole_divided_23 : decode cWhole_divided 23 = .ok (.lreturn, 1) := by decide +kernel
theorem dWhole_divided_24 : decode cWhole_divided 24 = .ok (.iload_n 0, 1) := by decide +kernel
theorem dWhole_divided_25 : decode cWhole_divided 25 = .ok (.tableswitch 52 6 8 #[27, 36, 43], 27) := by decide +kernel
theorem dWhole_divided_52 : decode cWhole_divided 52 = .ok (.iload_n 1, 1) := by decide +kernel
theorem dWhole_divided_53 : decode cWhole_divided 53 = .ok (.lload_n 2, 1) := by decide +kernel
theorem dWhole_divided_54 : decode cWhole_divided 54 = .ok (.invokestatic 31, 3) := by decide +kernel
theorem dWhole_divided_57 : decode cWhole_divided 57 = .ok (.lload 6, 2) := by decide +kernel
theorem dWhole_divided_59 : decode cWhole_divided 59 = .ok (.ldiv, 1) := by decide +kernel
theorem dWhole_divided_60 : decode cWhole_divided 60 = .ok (.lreturn, 1) := by decide +kernel
theorem dWhole_divided_61 : decode cWhole_divided 61 = .ok (.lload_n 2, 1) := by decide +kernel
theorem dWhole_divided_62 : decode cWhole_divided 62 = .ok (.lload 4, 2) := by decide +kernel
theorem dWhole_divided_64 : decode cWhole_divided 64 = .ok (.invokestatic 56, 3) := by decide +kernel
theorem dWhole_divided_67 : decode cWhole_divided 67 = .ok (.lreturn, 1) := by decide +kernel
theorem dWhole_divided_68 : decode cWhole_divided 68 = .ok (.iload_n 1, 1) := by decide +kernel
theorem dWhole_divided_69 : decode cWhole_divided 69 = .ok (.lload_n 2, 1) := by decide +kernel
theorem dWhole_divided_70 : decode cWhole_divided 70 = .ok (.invokestatic 31, 3) := by decide +kernel
theorem dWhole_divided_73 : decode cWhole_divided 73 = .ok (.lload 6, 2) := by decide +kernel
theorem dWhole_divided_75 : decode cWhole_divided 75 = .ok (.lrem, 1) := by decide +kernel
theorem dWhole_divided_76 : decode cWhole_divided 76 = .ok (.lreturn, 1) := by decide +kernel
theorem dWhole_divided_77 : decode cWhole_divided 77 = .ok (.lload_n 2, 1) := by decide +kernel
theorem dWhole_divided_78 : decode cWhole_divided 78 = .ok (.lload 4, 2) := by decide +kernel
theorem dWhole_divided_80 : decode cWhole_divided 80 = .ok (.lload_n 2, 1) := by decide +kernel
theorem dWhole_divided_81 : decode cWhole_divided 81 = .ok (.lload 4, 2) := by decide +kernel
theorem dWhole_divided_83 : decode cWhole_divided 83 = .ok (.invokestatic 56, 3) := by decide +kernel
theorem dWhole_divided_86 : decode cWhole_divided 86 = .ok (.lmul, 1) := by decide +kernel
theorem dWhole_divided_87 : decode cWhole_divided 87 = .ok (.lsub, 1) := by decide +kernel
theorem dWhole_divided_88 : decode cWhole_divided 88 = .ok (.lreturn, 1) := by decide +kernel
theorem dWhole_shifted_0 : decode cWhole_shifted 0 = .ok (.iload_n 0, 1) := by decide +kernel
theorem dWhole_shifted_1 : decode cWhole_shifted 1 = .ok (.tableswitch 84 13 17 #[35, 40, 49, 54, 69], 35) := by decide +kernel
theorem dWhole_shifted_36 : decode cWhole_shifted 36 = .ok (.lload_n 2, 1) := by decide +kernel
theorem dWhole_shifted_37 : decode cWhole_shifted 37 = .ok (.iload 4, 2) := by decide +kernel
theorem dWhole_shifted_39 : decode cWhole_shifted 39 = .ok (.lshl, 1) := by decide +kernel
theorem dWhole_shifted_40 : decode cWhole_shifted 40 = .ok (.lreturn, 1) := by decide +kernel
theorem dWhole_shifted_41 : decode cWhole_shifted 41 = .ok (.iload_n 1, 1) := by decide +kernel
theorem dWhole_shifted_42 : decode cWhole_shifted 42 = .ok (.lload_n 2, 1) := by decide +kernel
theorem dWhole_shifted_43 : decode cWhole_shifted 43 = .ok (.invokestatic 31, 3) := by decide +kernel
theorem dWhole_shifted_46 : decode cWhole_shifted 46 = .ok (.iload 4, 2) := by decide +kernel
theorem dWhole_shifted_48 : decode cWhole_shifted 48 = .ok (.lshr, 1) := by decide +kernel
theorem dWhole_shifted_49 : decode cWhole_shifted 49 = .ok (.lreturn, 1) := by decide +kernel
theorem dWhole_shifted_50 : decode cWhole_shifted 50 = .ok (.lload_n 2, 1) := by decide +kernel
theorem dWhole_shifted_51 : decode cWhole_shifted 51 = .ok (.iload 4, 2) := by decide +kernel
theorem dWhole_shifted_53 : decode cWhole_shifted 53 = .ok (.lushr, 1) := by decide +kernel
theorem dWhole_shifted_54 : decode cWhole_shifted 54 = .ok (.lreturn, 1) := by decide +kernel
theorem dWhole_shifted_55 : decode cWhole_shifted 55 = .ok (.lload_n 2, 1) := by decide +kernel
theorem dWhole_shifted_56 : decode cWhole_shifted 56 = .ok (.iload 4, 2) := by decide +kernel
theorem dWhole_shifted_58 : decode cWhole_shifted 58 = .ok (.lshl, 1) := by decide +kernel
theorem dWhole_shifted_59 : decode cWhole_shifted 59 = .ok (.lload_n 2, 1) := by decide +kernel
theorem dWhole_shifted_60 : decode cWhole_shifted 60 = .ok (.iload_n 1, 1) := by decide +kernel
theorem dWhole_shifted_61 : decode cWhole_shifted 61 = .ok (.invokestatic 13, 3) := by decide +kernel
theorem dWhole_shifted_64 : decode cWhole_shifted 64 = .ok (.iload 4, 2) := by decide +kernel
theorem dWhole_shifted_66 : decode cWhole_shifted 66 = .ok (.isub, 1) := by decide +kernel
theorem dWhole_shifted_67 : decode cWhole_shifted 67 = .ok (.lushr, 1) := by decide +kernel
theorem dWhole_shifted_68 : decode cWhole_shifted 68 = .ok (.lor, 1) := by decide +kernel
theorem dWhole_shifted_69 : decode cWhole_shifted 69 = .ok (.lreturn, 1) := by decide +kernel
theorem dWhole_shifted_70 : decode cWhole_shifted 70 = .ok (.lload_n 2, 1) := by decide +kernel
theorem dWhole_shifted_71 : decode cWhole_shifted 71 = .ok (.iload 4, 2) := by decide +kernel
theorem dWhole_shifted_73 : decode cWhole_shifted 73 = .ok (.lushr, 1) := by decide +kernel
theorem dWhole_shifted_74 : decode cWhole_shifted 74 = .ok (.lload_n 2, 1) := by decide +kernel
theorem dWhole_shifted_75 : decode cWhole_shifted 75 = .ok (.iload_n 1, 1) := by decide +kernel
theorem dWhole_shifted_76 : decode cWhole_shifted 76 = .ok (.invokestatic 13, 3) := by decide +kernel
theorem dWhole_shifted_79 : decode cWhole_shifted 79 = .ok (.iload 4, 2) := by decide +kernel
theorem dWhole_shifted_81 : decode cWhole_shifted 81 = .ok (.isub, 1) := by decide +kernel
theorem dWhole_shifted_82 : decode cWhole_shifted 82 = .ok (.lshl, 1) := by decide +kernel
theorem dWhole_shifted_83 : decode cWhole_shifted 83 = .ok (.lor, 1) := by decide +kernel
theorem dWhole_shifted_84 : decode cWhole_shifted 84 = .ok (.lreturn, 1) := by decide +kernel
theorem dWhole_shifted_85 : decode cWhole_shifted 85 = .ok (.lload_n 2, 1) := by decide +kernel
theorem dWhole_shifted_86 : decode cWhole_shifted 86 = .ok (.lreturn, 1) := by decide +kernel
theorem dWhole_result_0 : decode cWhole_result 0 = .ok (.iload_n 0, 1) := by decide +kernel
theorem dWhole_result_1 : decode cWhole_result 1 = .ok (.tableswitch 148 0 12 #[67, 78, 103, 109, 114, 119, 124, 124, 124, 124, 133, 138, 143], 67) := by decide +kernel
theorem dWhole_result_68 : decode cWhole_result 68 = .ok (.iload_n 1, 1) := by decide +kernel
theorem dWhole_result_69 : decode cWhole_result 69 = .ok (.invokestatic 13, 3) := by decide +kernel
theorem dWhole_result_72 : decode cWhole_result 72 = .ok (.lload_n 2, 1) := by decide +kernel
theorem dWhole_result_73 : decode cWhole_result 73 = .ok (.invokestatic 45, 3) := by decide +kernel
theorem dWhole_result_76 : decode cWhole_result 76 = .ok (.isub, 1) := by decide +kernel
theorem dWhole_result_77 : decode cWhole_result 77 = .ok (.i2l, 1) := by decide +kernel
theorem dWhole_result_78 : decode cWhole_result 78 = .ok (.lreturn, 1) := by decide +kernel
theorem dWhole_result_79 : decode cWhole_result 79 = .ok (.lload_n 2, 1) := by decide +kernel
theorem dWhole_result_80 : decode cWhole_result 80 = .ok (.lconst 0, 1) := by decide +kernel
theorem dWhole_result_81 : decode cWhole_result 81 = .ok (.lcmp, 1) := by decide +kernel
theorem dWhole_result_82 : decode cWhole_result 82 = .ok (.ifCond .ne 11, 3) := by decide +kernel
theorem dWhole_result_85 : decode cWhole_result 85 = .ok (.iload_n 1, 1) := by decide +kernel
theorem dWhole_result_86 : decode cWhole_result 86 = .ok (.invokestatic 13, 3) := by decide +kernel
theorem dWhole_result_89 : decode cWhole_result 89 = .ok (.i2l, 1) := by decide +kernel
theorem dWhole_result_90 : decode cWhole_result 90 = .ok (.goto 13, 3) := by decide +kernel
theorem dWhole_result_93 : decode cWhole_result 93 = .ok (.lload_n 2, 1) := by decide +kernel
theorem dWhole_result_94 : decode cWhole_result 94 = .ok (.lload_n 2, 1) := by decide +kernel
theorem dWhole_result_95 : decode cWhole_result 95 = .ok (.lneg, 1) := by decide +kernel
theorem dWhole_result_96 : decode cWhole_result 96 = .ok (.land, 1) := by decide +kernel
theorem dWhole_result_97 : decode cWhole_result 97 = .ok (.lconst 1, 1) := by decide +kernel
theorem dWhole_result_98 : decode cWhole_result 98 = .ok (.lsub, 1) := by decide +kernel
theorem dWhole_result_99 : decode cWhole_result 99 = .ok (.invokestatic 27, 3) := by decide +kernel
theorem dWhole_result_102 : decode cWhole_result 102 = .ok (.i2l, 1) := by decide +kernel
theorem dWhole_result_103 : decode cWhole_result 103 = .ok (.lreturn, 1) := by decide +kernel
theorem dWhole_result_104 : decode cWhole_result 104 = .ok (.lload_n 2, 1) := by decide +kernel
theorem dWhole_result_105 : decode cWhole_result 105 = .ok (.invokestatic 27, 3) := by decide +kernel
theorem dWhole_result_108 : decode cWhole_result 108 = .ok (.i2l, 1) := by decide +kernel
theorem dWhole_result_109 : decode cWhole_result 109 = .ok (.lreturn, 1) := by decide +kernel
theorem dWhole_result_110 : decode cWhole_result 110 = .ok (.lload_n 2, 1) := by decide +kernel
theorem dWhole_result_111 : decode cWhole_result 111 = .ok (.lload 4, 2) := by decide +kernel
theorem dWhole_result_113 : decode cWhole_result 113 = .ok (.ladd, 1) := by decide +kernel
theorem dWhole_result_114 : decode cWhole_result 114 = .ok (.lreturn, 1) := by decide +kernel
theorem dWhole_result_115 : decode cWhole_result 115 = .ok (.lload_n 2, 1) := by decide +kernel
theorem dWhole_result_116 : decode cWhole_result 116 = .ok (.lload 4, 2) := by decide +kernel
theorem dWhole_result_118 : decode cWhole_result 118 = .ok (.lsub, 1) := by decide +kernel
theorem dWhole_result_119 : decode cWhole_result 119 = .ok (.lreturn, 1) := by decide +kernel
theorem dWhole_result_120 : decode cWhole_result 120 = .ok (.lload_n 2, 1) := by decide +kernel
theorem dWhole_result_121 : decode cWhole_result 121 = .ok (.lload 4, 2) := by decide +kernel
theorem dWhole_result_123 : decode cWhole_result 123 = .ok (.lmul, 1) := by decide +kernel
theorem dWhole_result_124 : decode cWhole_result 124 = .ok (.lreturn, 1) := by decide +kernel
theorem dWhole_result_125 : decode cWhole_result 125 = .ok (.iload_n 0, 1) := by decide +kernel
theorem dWhole_result_126 : decode cWhole_result 126 = .ok (.iload_n 1, 1) := by decide +kernel
theorem dWhole_result_127 : decode cWhole_result 127 = .ok (.lload_n 2, 1) := by decide +kernel
theorem dWhole_result_128 : decode cWhole_result 128 = .ok (.lload 4, 2) := by decide +kernel
theorem dWhole_result_130 : decode cWhole_result 130 = .ok (.invokestatic 48, 3) := by decide +kernel
theorem dWhole_result_133 : decode cWhole_result 133 = .ok (.lreturn, 1) := by decide +kernel
theorem dWhole_result_134 : decode cWhole_result 134 = .ok (.lload_n 2, 1) := by decide +kernel
theorem dWhole_result_135 : decode cWhole_result 135 = .ok (.lload 4, 2) := by decide +kernel
theorem dWhole_result_137 : decode cWhole_result 137 = .ok (.land, 1) := by decide +kernel
theorem dWhole_result_138 : decode cWhole_result 138 = .ok (.lreturn, 1) := by decide +kernel
theorem dWhole_result_139 : decode cWhole_result 139 = .ok (.lload_n 2, 1) := by decide +kernel
theorem dWhole_result_140 : decode cWhole_result 140 = .ok (.lload 4, 2) := by decide +kernel
theorem dWhole_result_142 : decode cWhole_result 142 = .ok (.lor, 1) := by decide +kernel
theorem dWhole_result_143 : decode cWhole_result 143 = .ok (.lreturn, 1) := by decide +kernel
theorem dWhole_result_144 : decode cWhole_result 144 = .ok (.lload_n 2, 1) := by decide +kernel
theorem dWhole_result_145 : decode cWhole_result 145 = .ok (.lload 4, 2) := by decide +kernel
theorem dWhole_result_147 : decode cWhole_result 147 = .ok (.lxor, 1) := by decide +kernel
theorem dWhole_result_148 : decode cWhole_result 148 = .ok (.lreturn, 1) := by decide +kernel
theorem dWhole_result_149 : decode cWhole_result 149 = .ok (.iload_n 0, 1) := by decide +kernel
theorem dWhole_result_150 : decode cWhole_result 150 = .ok (.iload_n 1, 1) := by decide +kernel
theorem dWhole_result_151 : decode cWhole_result 151 = .ok (.lload_n 2, 1) := by decide +kernel
theorem dWhole_result_152 : decode cWhole_result 152 = .ok (.lload 4, 2) := by decide +kernel
theorem dWhole_result_154 : decode cWhole_result 154 = .ok (.l2i, 1) := by decide +kernel
theorem dWhole_result_155 : decode cWhole_result 155 = .ok (.iload_n 1, 1) := by decide +kernel
theorem dWhole_result_156 : decode cWhole_result 156 = .ok (.invokestatic 13, 3) := by decide +kernel
theorem dWhole_result_159 : decode cWhole_result 159 = .ok (.iconst 1, 1) := by decide +kernel
theorem dWhole_result_160 : decode cWhole_result 160 = .ok (.isub, 1) := by decide +kernel
theorem dWhole_result_161 : decode cWhole_result 161 = .ok (.iand, 1) := by decide +kernel
theorem dWhole_result_162 : decode cWhole_result 162 = .ok (.invokestatic 52, 3) := by decide +kernel
theorem dWhole_result_165 : decode cWhole_result 165 = .ok (.lreturn, 1) := by decide +kernel
theorem dOperators_result_0 : decode cOperators_result 0 = .ok (.iload_n 0, 1) := by decide +kernel
theorem dOperators_result_1 : decode cOperators_result 1 = .ok (.invokestatic 15, 3) := by decide +kernel
theorem dOperators_result_4 : decode cOperators_result 4 = .ok (.istore 5, 2) := by decide +kernel
theorem dOperators_result_6 : decode cOperators_result 6 = .ok (.iload_n 0, 1) := by decide +kernel
theorem dOperators_result_7 : decode cOperators_result 7 = .ok (.getstatic 9, 3) := by decide +kernel
theorem dOperators_result_10 : decode cOperators_result 10 = .ok (.iload 5, 2) := by decide +kernel
theorem dOperators_result_12 : decode cOperators_result 12 = .ok (.iaload, 1) := by decide +kernel
theorem dOperators_result_13 : decode cOperators_result 13 = .ok (.isub, 1) := by decide +kernel
theorem dOperators_result_14 : decode cOperators_result 14 = .ok (.istore 6, 2) := by decide +kernel
theorem dOperators_result_16 : decode cOperators_result 16 = .ok (.iload_n 0, 1) := by decide +kernel
theorem dOperators_result_17 : decode cOperators_result 17 = .ok (.invokestatic 32, 3) := by decide +kernel
theorem dOperators_result_20 : decode cOperators_result 20 = .ok (.istore 7, 2) := by decide +kernel
theorem dOperators_result_22 : decode cOperators_result 22 = .ok (.iload 5, 2) := by decide +kernel
theorem dOperators_result_24 : decode cOperators_result 24 = .ok (.tableswitch 110 0 7 #[48, 48, 66, 66, 87, 87, 97, 97], 48) := by decide +kernel
theorem dOperators_result_72 : decode cOperators_result 72 = .ok (.iload 6, 2) := by decide +kernel
theorem dOperators_result_74 : decode cOperators_result 74 = .ok (.iload 7, 2) := by decide +kernel
theorem dOperators_result_76 : decode cOperators_result 76 = .ok (.lload_n 1, 1) := by decide +kernel
theorem dOperators_result_77 : decode cOperators_result 77 = .ok (.lload_n 3, 1) := by decide +kernel
theorem dOperators_result_78 : decode cOperators_result 78 = .ok (.invokestatic 59, 3) := by decide +kernel
theorem dOperators_result_81 : decode cOperators_result 81 = .ok (.ifCond .eq 7, 3) := by decide +kernel
theorem dOperators_result_84 : decode cOperators_result 84 = .ok (.lconst 1, 1) := by decide +kernel
theorem dOperators_result_85 : decode cOperators_result 85 = .ok (.goto 4, 3) := by decide +kernel
theorem dOperators_result_88 : decode cOperators_result 88 = .ok (.lconst 0, 1) := by decide +kernel
theorem dOperators_result_89 : decode cOperators_result 89 = .ok (.lreturn, 1) := by decide +kernel
theorem dOperators_result_90 : decode cOperators_result 90 = .ok (.iload 6, 2) := by decide +kernel
theorem dOperators_result_92 : decode cOperators_result 92 = .ok (.iload 7, 2) := by decide +kernel
theorem dOperators_result_94 : decode cOperators_result 94 = .ok (.invokestatic 47, 3) := by decide +kernel
theorem dOperators_result_97 : decode cOperators_result 97 = .ok (.lload_n 1, 1) := by decide +kernel
theorem dOperators_result_98 : decode cOperators_result 98 = .ok (.lload_n 3, 1) := by decide +kernel
theorem dOperators_result_99 : decode cOperators_result 99 = .ok (.invokestatic 63, 3) := by decide +kernel
theorem dOperators_result_102 : decode cOperators_result 102 = .ok (.ifCond .eq 7, 3) := by decide +kernel
theorem dOperators_result_105 : decode cOperators_result 105 = .ok (.lconst 1, 1) := by decide +kernel
theorem dOperators_result_106 : decode cOperators_result 106 = .ok (.goto 4, 3) := by decide +kernel
theorem dOperators_result_109 : decode cOperators_result 109 = .ok (.lconst 0, 1) := by decide +kernel
theorem dOperators_result_110 : decode cOperators_result 110 = .ok (.lreturn, 1) := by decide +kernel
theorem dOperators_result_111 : decode cOperators_result 111 = .ok (.iload 6, 2) := by decide +kernel
theorem dOperators_result_113 : decode cOperators_result 113 = .ok (.iload 7, 2) := by decide +kernel
theorem dOperators_result_115 : decode cOperators_result 115 = .ok (.lload_n 1, 1) := by decide +kernel
theorem dOperators_result_116 : decode cOperators_result 116 = .ok (.lload_n 3, 1) := by decide +kernel
theorem dOperators_result_117 : decode cOperators_result 117 = .ok (.invokestatic 68, 3) := by decide +kernel
theorem dOperators_result_120 : decode cOperators_result 120 = .ok (.lreturn, 1) := by decide +kernel
theorem dOperators_result_121 : decode cOperators_result 121 = .ok (.iload 6, 2) := by decide +kernel
theorem dOperators_result_123 : decode cOperators_result 123 = .ok (.iload 7, 2) := by decide +kernel
theorem dOperators_result_125 : decode cOperators_result 125 = .ok (.invokestatic 47, 3) := by decide +kernel
theorem dOperators_result_128 : decode cOperators_result 128 = .ok (.lload_n 1, 1) := by decide +kernel
theorem dOperators_result_129 : decode cOperators_result 129 = .ok (.lload_n 3, 1) := by decide +kernel
theorem dOperators_result_130 : decode cOperators_result 130 = .ok (.invokestatic 72, 3) := by decide +kernel
theorem dOperators_result_133 : decode cOperators_result 133 = .ok (.lreturn, 1) := by decide +kernel
theorem dOperators_result_134 : decode cOperators_result 134 = .ok (.iload_n 0, 1) := by decide +kernel
theorem dOperators_result_135 : decode cOperators_result 135 = .ok (.iload 7, 2) := by decide +kernel
theorem dOperators_result_137 : decode cOperators_result 137 = .ok (.iload_n 0, 1) := by decide +kernel
theorem dOperators_result_138 : decode cOperators_result 138 = .ok (.invokestatic 53, 3) := by decide +kernel
theorem dOperators_result_141 : decode cOperators_result 141 = .ok (.lload_n 1, 1) := by decide +kernel
theorem dOperators_result_142 : decode cOperators_result 142 = .ok (.invokestatic 75, 3) := by decide +kernel
theorem dOperators_result_145 : decode cOperators_result 145 = .ok (.lreturn, 1) := by decide +kernel
end
section
set_option maxHeartbeats 4000000 in
set_option maxRecDepth 100000 in
theorem kConversions_isTowardsZero_35 {p : Program} {l : Launch} {e : Env} {s : State} {m : MethodId} {args : Array Value} {below : List Frame} {meth : Method} {c : Code} (C : pw_C p s m args meth c cConversions_isTowardsZero 1 (some .boolean) "BitNumbers$Conversions")  {ls : Array Slot} (hl : lv_has ls 1 []) : W p l e rmConversions_isTowardsZero s m args below meth c s.heap [] 0 0 (MQ below (k2_QcV (.int (fConversions_isTowardsZero_35))) args s 0 0 (fun _ => False)) (F0 m 35 ls []) := by
  obtain ⟨hx, hb, hr, hml, hown, hts, hlocks⟩ := id C
  refine lv_iconst (v := 1) hx hb dConversions_isTowardsZero_35 (by decide) ?_
  refine lv_goto (tgt := 40) hx hb dConversions_isTowardsZero_36 (by decide) ?_
  exact W.zret hx hb hr (pw_nz (Or.inr rfl)) (fun t ht _ => ⟨by rw [(show fConversions_isTowardsZero_35 = 1 by rw [fConversions_isTowardsZero_35])], ht⟩) (fun q h => nomatch h) dConversions_isTowardsZero_40
set_option maxHeartbeats 4000000 in
set_option maxRecDepth 100000 in
theorem kConversions_isTowardsZero_28 {p : Program} {l : Launch} {e : Env} {s : State} {m : MethodId} {args : Array Value} {below : List Frame} {meth : Method} {c : Code} (C : pw_C p s m args meth c cConversions_isTowardsZero 1 (some .boolean) "BitNumbers$Conversions") (a0 : Int32) {ls : Array Slot} (hl : lv_has ls 1 [(0, .int a0)]) : W p l e rmConversions_isTowardsZero s m args below meth c s.heap [] 0 0 (MQ below (k2_QcV (.int (fConversions_isTowardsZero_28 a0))) args s 0 0 (fun _ => False)) (F0 m 28 ls []) := by
  obtain ⟨hx, hb, hr, hml, hown, hts, hlocks⟩ := id C
  refine lv_iload_n hx hb dConversions_isTowardsZero_28 rfl (lv_at hl 0 rfl) ?_
  refine lv_sipush (v := 200) hx hb dConversions_isTowardsZero_29 (by decide) ?_
  refine lv_icmp_lt (tgt := 39) hx hb dConversions_isTowardsZero_32 (by decide) (fun h1 => ?_) (fun h1 => ?_)
  · refine lv_iconst (v := 0) hx hb dConversions_isTowardsZero_39 (by decide) ?_
    exact W.zret hx hb hr (pw_nz (Or.inl rfl)) (fun t ht _ => ⟨by rw [(show fConversions_isTowardsZero_28 a0 = 0 by rw [fConversions_isTowardsZero_28, if_pos h1])], ht⟩) (fun q h => nomatch h) dConversions_isTowardsZero_40
  · rw [(show fConversions_isTowardsZero_28 a0 = fConversions_isTowardsZero_35 by rw [fConversions_isTowardsZero_28, if_neg h1])]
    exact kConversions_isTowardsZero_35 C (lv_sub hl [] rfl)
set_option maxHeartbeats 4000000 in
set_option maxRecDepth 100000 in
theorem kConversions_isTowardsZero_14 {p : Program} {l : Launch} {e : Env} {s : State} {m : MethodId} {args : Array Value} {below : List Frame} {meth : Method} {c : Code} (C : pw_C p s m args meth c cConversions_isTowardsZero 1 (some .boolean) "BitNumbers$Conversions") (a0 : Int32) {ls : Array Slot} (hl : lv_has ls 1 [(0, .int a0)]) : W p l e rmConversions_isTowardsZero s m args below meth c s.heap [] 0 0 (MQ below (k2_QcV (.int (fConversions_isTowardsZero_14 a0))) args s 0 0 (fun _ => False)) (F0 m 14 ls []) := by
  obtain ⟨hx, hb, hr, hml, hown, hts, hlocks⟩ := id C
  refine lv_iload_n hx hb dConversions_isTowardsZero_14 rfl (lv_at hl 0 rfl) ?_
  refine lv_sipush (v := 173) hx hb dConversions_isTowardsZero_15 (by decide) ?_
  refine lv_icmp_le (tgt := 28) hx hb dConversions_isTowardsZero_18 (by decide) (fun h1 => ?_) (fun h1 => ?_)
  · rw [(show fConversions_isTowardsZero_14 a0 = fConversions_isTowardsZero_28 a0 by rw [fConversions_isTowardsZero_14, if_pos h1])]
    exact kConversions_isTowardsZero_28 C a0 (lv_sub hl [0] rfl)
  · refine lv_iload_n hx hb dConversions_isTowardsZero_21 rfl (lv_at hl 0 rfl) ?_
    refine lv_sipush (v := 178) hx hb dConversions_isTowardsZero_22 (by decide) ?_
    refine lv_icmp_lt (tgt := 35) hx hb dConversions_isTowardsZero_25 (by decide) (fun h2 => ?_) (fun h2 => ?_)
    · rw [(show fConversions_isTowardsZero_14 a0 = fConversions_isTowardsZero_35 by rw [fConversions_isTowardsZero_14, if_neg h1, if_pos h2])]
      exact kConversions_isTowardsZero_35 C (lv_sub hl [] rfl)
    · rw [(show fConversions_isTowardsZero_14 a0 = fConversions_isTowardsZero_28 a0 by rw [fConversions_isTowardsZero_14, if_neg h1, if_neg h2])]
      exact kConversions_isTowardsZero_28 C a0 (lv_sub hl [0] rfl)
set_option maxHeartbeats 4000000 in
set_option maxRecDepth 100000 in
theorem kConversions_isTowardsZero_0 {p : Program} {l : Launch} {e : Env} {s : State} {m : MethodId} {args : Array Value} {below : List Frame} {meth : Method} {c : Code} (C : pw_C p s m args meth c cConversions_isTowardsZero 1 (some .boolean) "BitNumbers$Conversions") (a0 : Int32) {ls : Array Slot} (hl : lv_has ls 1 [(0, .int a0)]) : W p l e rmConversions_isTowardsZero s m args below meth c s.heap [] 0 0 (MQ below (k2_QcV (.int (fConversions_isTowardsZero a0))) args s 0 0 (fun _ => False)) (F0 m 0 ls []) := by
  obtain ⟨hx, hb, hr, hml, hown, hts, hlocks⟩ := id C
  refine lv_iload_n hx hb dConversions_isTowardsZero_0 rfl (lv_at hl 0 rfl) ?_
  refine lv_sipush (v := 167) hx hb dConversions_isTowardsZero_1 (by decide) ?_
  refine lv_icmp_le (tgt := 14) hx hb dConversions_isTowardsZero_4 (by decide) (fun h1 => ?_) (fun h1 => ?_)
  · rw [(show fConversions_isTowardsZero a0 = fConversions_isTowardsZero_14 a0 by rw [fConversions_isTowardsZero, if_pos h1])]
    exact kConversions_isTowardsZero_14 C a0 (lv_sub hl [0] rfl)
  · refine lv_iload_n hx hb dConversions_isTowardsZero_7 rfl (lv_at hl 0 rfl) ?_
    refine lv_sipush (v := 172) hx hb dConversions_isTowardsZero_8 (by decide) ?_
    refine lv_icmp_lt (tgt := 35) hx hb dConversions_isTowardsZero_11 (by decide) (fun h2 => ?_) (fun h2 => ?_)
    · rw [(show fConversions_isTowardsZero a0 = fConversions_isTowardsZero_35 by rw [fConversions_isTowardsZero, if_neg h1, if_pos h2])]
      exact kConversions_isTowardsZero_35 C (lv_sub hl [] rfl)
    · rw [(show fConversions_isTowardsZero a0 = fConversions_isTowardsZero_14 a0 by rw [fConversions_isTowardsZero, if_neg h1, if_neg h2])]
      exact kConversions_isTowardsZero_14 C a0 (lv_sub hl [0] rfl)
set_option maxHeartbeats 4000000 in
set_option maxRecDepth 100000 in
theorem qConversions_isTowardsZero (l : Launch) (a0 : Int32) : Met l yConversions_isTowardsZero wsConversions_isTowardsZero rmConversions_isTowardsZero (va_Pc [.int a0] (fun _ => True)) (k2_QcV (.int (fConversions_isTowardsZero a0))) 0 0 (fun _ => False) := by
  refine Met.ofW (cc := cConversions_isTowardsZero) (maxL := 1) (ret := (some .boolean)) (by decide) rfl ?_
  intro p e s m args below meth c s₁ B hml hv
  obtain ⟨rfl, hG⟩ := hv
  have hts0 := atoms_spec (ws := wsConversions_isTowardsZero) B.pre
  have hts := fun (w : Cond) (h : w ∈ aw) => hts0 w (List.mem_cons_of_mem _ h)
  have hown : s.vm.findClass "BitNumbers$Conversions" = some m.cls := findClass_of_methodNamed B.named
  have hl := lv_entry ([.int a0]) (n := 1) (Nat.le_of_ble_eq_true rfl)
  rw [lg_entry_eq]
  generalize (lg_sl ([.int a0]) ++ List.replicate (1 - (lg_sl ([.int a0])).length) Slot.unset).toArray = ls at hl ⊢
  exact kConversions_isTowardsZero_0 ⟨B.exec, B.bytes, B.returns, hml, hown, hts, B.notSynchronized⟩ a0 hl

set_option maxHeartbeats 4000000 in
set_option maxRecDepth 100000 in
theorem kFormat_isNone_0 {p : Program} {l : Launch} {e : Env} {s : State} {m : MethodId} {args : Array Value} {below : List Frame} {meth : Method} {c : Code} {ad td : Nat → Nat} (C : pw_C p s m args meth c cFormat_isNone 3 (some .boolean) "BitNumbers$Format") (hG : pw_G (fun _ => False) ad td s s.heap) (a0 : Nat) (a1 : Int64) (hk0 : a0 < 2) {ls : Array Slot} (hl : lv_has ls 3 [(0, .ref (ad a0)), (1, .long a1)]) : W p l e rmFormat_isNone s m args below meth c s.heap [] 0 0 (MQ below (k2_QcV (.int (fFormat_isNone a0 a1))) args s 0 0 (fun _ => False)) (F0 m 0 ls []) := by
  obtain ⟨hx, hb, hr, hml, hown, hts, hlocks⟩ := id C
  have hS : va_S (fun _ => False) s.heap s.heap [] := va_S.rf
  refine lv_lload_n hx hb dFormat_isNone_0 rfl (lv_at hl 1 rfl) ?_
  refine lv_aload_n hx hb dFormat_isNone_1 rfl (lv_at hl 0 rfl) ?_
  refine va_getX hx hb hG.2.1.2.2.2.1 hk0 hS hown (hts _ w_808) (fun _ h9 => h9) dFormat_isNone_2 ?_
  refine lv_ldc2 hx hb hown (hts _ w_157) dFormat_isNone_5 ?_
  refine lv_lxor hx hb dFormat_isNone_8 ?_
  refine lv_land hx hb dFormat_isNone_9 ?_
  refine lv_aload_n hx hb dFormat_isNone_10 rfl (lv_at hl 0 rfl) ?_
  refine va_getX hx hb hG.2.1.2.2.2.2.2.1 hk0 hS hown (hts _ w_809) (fun _ h9 => h9) dFormat_isNone_11 ?_
  refine W.lcmp hx hb dFormat_isNone_14 ?_
  refine lv_if_le (tgt := 22) hx hb dFormat_isNone_15 (by decide) (fun h1 => ?_) (fun h1 => ?_)
  · have h1 : (a1 &&& ((fm_signBit a0) ^^^ (-1))) ≤ (fm_infinite a0) := (lg_cmp_le _ _).mp h1
    refine lv_iconst (v := 0) hx hb dFormat_isNone_22 (by decide) ?_
    exact W.zret hx hb hr (pw_nz (Or.inl rfl)) (fun t ht _ => ⟨by rw [(show fFormat_isNone a0 a1 = 0 by rw [fFormat_isNone, if_pos h1])], ht⟩) (fun q h => nomatch h) dFormat_isNone_23
  · have h1 : ¬ ((a1 &&& ((fm_signBit a0) ^^^ (-1))) ≤ (fm_infinite a0)) := fun w => h1 ((lg_cmp_le _ _).mpr w)
    refine lv_iconst (v := 1) hx hb dFormat_isNone_18 (by decide) ?_
    refine lv_goto (tgt := 23) hx hb dFormat_isNone_19 (by decide) ?_
    exact W.zret hx hb hr (pw_nz (Or.inr rfl)) (fun t ht _ => ⟨by rw [(show fFormat_isNone a0 a1 = 1 by rw [fFormat_isNone, if_neg h1])], ht⟩) (fun q h => nomatch h) dFormat_isNone_23
set_option maxHeartbeats 4000000 in
set_option maxRecDepth 100000 in
theorem qFormat_isNone (l : Launch) (ad td : Nat → Nat) (a0 : Nat) (a1 : Int64) (hk0 : a0 < 2) : Met l yFormat_isNone wsFormat_isNone rmFormat_isNone (va_Pc [.ref (ad a0), .long a1] (fun U => pw_G (fun _ => False) ad td U U.heap)) (k2_QcV (.int (fFormat_isNone a0 a1))) 0 0 (fun _ => False) := by
  refine Met.ofW (cc := cFormat_isNone) (maxL := 3) (ret := (some .boolean)) (by decide) rfl ?_
  intro p e s m args below meth c s₁ B hml hv
  obtain ⟨rfl, hG⟩ := hv
  have hts0 := atoms_spec (ws := wsFormat_isNone) B.pre
  have hts := fun (w : Cond) (h : w ∈ aw) => hts0 w (List.mem_cons_of_mem _ h)
  have hown : s.vm.findClass "BitNumbers$Format" = some m.cls := findClass_of_methodNamed B.named
  have hl := lv_entry ([.ref (ad a0), .long a1]) (n := 3) (Nat.le_of_ble_eq_true rfl)
  rw [lg_entry_eq]
  generalize (lg_sl ([.ref (ad a0), .long a1]) ++ List.replicate (3 - (lg_sl ([.ref (ad a0), .long a1])).length) Slot.unset).toArray = ls at hl ⊢
  exact kFormat_isNone_0 ⟨B.exec, B.bytes, B.returns, hml, hown, hts, B.notSynchronized⟩ hG a0 a1 hk0 hl

set_option maxHeartbeats 4000000 in
set_option maxRecDepth 100000 in
theorem kConversions_isSigned_38 {p : Program} {l : Launch} {e : Env} {s : State} {m : MethodId} {args : Array Value} {below : List Frame} {meth : Method} {c : Code} (C : pw_C p s m args meth c cConversions_isSigned 2 (some .boolean) "BitNumbers$Conversions") (a1 : Int32) (hz1 : a1 = 0 ∨ a1 = 1) {ls : Array Slot} (hl : lv_has ls 2 [(1, .int a1)]) : W p l e rmConversions_isSigned s m args below meth c s.heap [] 0 0 (MQ below (k2_QcV (.int (fConversions_isSigned_38 a1))) args s 0 0 (fun _ => False)) (F0 m 38 ls []) := by
  obtain ⟨hx, hb, hr, hml, hown, hts, hlocks⟩ := id C
  refine lv_iload_n hx hb dConversions_isSigned_38 rfl (lv_at hl 0 rfl) ?_
  exact W.zret hx hb hr (pw_nz hz1) (fun t ht _ => ⟨by rw [(show fConversions_isSigned_38 a1 = a1 by rw [fConversions_isSigned_38])], ht⟩) (fun q h => nomatch h) dConversions_isSigned_39
set_option maxHeartbeats 4000000 in
set_option maxRecDepth 100000 in
theorem kConversions_isSigned_11 {p : Program} {l : Launch} {e : Env} {s : State} {m : MethodId} {args : Array Value} {below : List Frame} {meth : Method} {c : Code} (C : pw_C p s m args meth c cConversions_isSigned 2 (some .boolean) "BitNumbers$Conversions") (a0 : Int32) (s0 : Int32) (hzs0 : s0 = 0 ∨ s0 = 1) {ls : Array Slot} (hl : lv_has ls 2 [(0, .int a0)]) : W p l e rmConversions_isSigned s m args below meth c s.heap [] 0 0 (MQ below (k2_QcV (.int (fConversions_isSigned_11 a0 s0))) args s 0 0 (fun _ => False)) (F0 m 11 ls [.int s0]) := by
  obtain ⟨hx, hb, hr, hml, hown, hts, hlocks⟩ := id C
  refine lv_istore_n (lv' := [(1, .int s0), (0, .int a0)]) hx hb dConversions_isSigned_11 rfl hl (by decide) rfl (fun ls hl => ?_)
  refine lv_iload_n hx hb dConversions_isSigned_12 rfl (lv_at hl 1 rfl) ?_
  refine lv_sipush (v := 182) hx hb dConversions_isSigned_13 (by decide) ?_
  refine lv_icmp_le (tgt := 38) hx hb dConversions_isSigned_16 (by decide) (fun h1 => ?_) (fun h1 => ?_)
  · rw [(show fConversions_isSigned_11 a0 s0 = fConversions_isSigned_38 s0 by rw [fConversions_isSigned_11, if_pos h1])]
    exact kConversions_isSigned_38 C s0 hzs0 (lv_sub hl [0] rfl)
  · refine lv_iload_n hx hb dConversions_isSigned_19 rfl (lv_at hl 1 rfl) ?_
    refine lv_sipush (v := 187) hx hb dConversions_isSigned_20 (by decide) ?_
    refine lv_icmp_ge (tgt := 38) hx hb dConversions_isSigned_23 (by decide) (fun h2 => ?_) (fun h2 => ?_)
    · rw [(show fConversions_isSigned_11 a0 s0 = fConversions_isSigned_38 s0 by rw [fConversions_isSigned_11, if_neg h1, if_pos h2])]
      exact kConversions_isSigned_38 C s0 hzs0 (lv_sub hl [0] rfl)
    · refine lv_iload_n hx hb dConversions_isSigned_26 rfl (lv_at hl 0 rfl) ?_
      refine lv_if_ne (tgt := 34) hx hb dConversions_isSigned_27 (by decide) (fun h3 => ?_) (fun h3 => ?_)
      · refine lv_iconst (v := 0) hx hb dConversions_isSigned_34 (by decide) ?_
        refine lv_goto (tgt := 39) hx hb dConversions_isSigned_35 (by decide) ?_
        exact W.zret hx hb hr (pw_nz (Or.inl rfl)) (fun t ht _ => ⟨by rw [(show fConversions_isSigned_11 a0 s0 = 0 by rw [fConversions_isSigned_11, if_neg h1, if_neg h2, if_neg h3])], ht⟩) (fun q h => nomatch h) dConversions_isSigned_39
      · refine lv_iconst (v := 1) hx hb dConversions_isSigned_30 (by decide) ?_
        refine lv_goto (tgt := 39) hx hb dConversions_isSigned_31 (by decide) ?_
        exact W.zret hx hb hr (pw_nz (Or.inr rfl)) (fun t ht _ => ⟨by rw [(show fConversions_isSigned_11 a0 s0 = 1 by rw [fConversions_isSigned_11, if_neg h1, if_neg h2, if_pos h3])], ht⟩) (fun q h => nomatch h) dConversions_isSigned_39
set_option maxHeartbeats 4000000 in
set_option maxRecDepth 100000 in
theorem kConversions_isSigned_0 {p : Program} {l : Launch} {e : Env} {s : State} {m : MethodId} {args : Array Value} {below : List Frame} {meth : Method} {c : Code} (C : pw_C p s m args meth c cConversions_isSigned 2 (some .boolean) "BitNumbers$Conversions") (a0 : Int32) {ls : Array Slot} (hl : lv_has ls 2 [(0, .int a0)]) : W p l e rmConversions_isSigned s m args below meth c s.heap [] 0 0 (MQ below (k2_QcV (.int (fConversions_isSigned a0))) args s 0 0 (fun _ => False)) (F0 m 0 ls []) := by
  obtain ⟨hx, hb, hr, hml, hown, hts, hlocks⟩ := id C
  refine lv_iload_n hx hb dConversions_isSigned_0 rfl (lv_at hl 0 rfl) ?_
  refine lv_iconst (v := 2) hx hb dConversions_isSigned_1 (by decide) ?_
  refine lv_irem hx hb dConversions_isSigned_2 (by decide) ?_
  refine lv_if_ne (tgt := 10) hx hb dConversions_isSigned_3 (by decide) (fun h1 => ?_) (fun h1 => ?_)
  · refine lv_iconst (v := 0) hx hb dConversions_isSigned_10 (by decide) ?_
    rw [(show fConversions_isSigned a0 = fConversions_isSigned_11 a0 0 by rw [fConversions_isSigned, if_neg h1])]
    exact kConversions_isSigned_11 C a0 0 (Or.inl rfl) (lv_sub hl [0] rfl)
  · refine lv_iconst (v := 1) hx hb dConversions_isSigned_6 (by decide) ?_
    refine lv_goto (tgt := 11) hx hb dConversions_isSigned_7 (by decide) ?_
    rw [(show fConversions_isSigned a0 = fConversions_isSigned_11 a0 1 by rw [fConversions_isSigned, if_pos h1])]
    exact kConversions_isSigned_11 C a0 1 (Or.inr rfl) (lv_sub hl [0] rfl)
set_option maxHeartbeats 4000000 in
set_option maxRecDepth 100000 in
theorem qConversions_isSigned (l : Launch) (a0 : Int32) : Met l yConversions_isSigned wsConversions_isSigned rmConversions_isSigned (va_Pc [.int a0] (fun _ => True)) (k2_QcV (.int (fConversions_isSigned a0))) 0 0 (fun _ => False) := by
  refine Met.ofW (cc := cConversions_isSigned) (maxL := 2) (ret := (some .boolean)) (by decide) rfl ?_
  intro p e s m args below meth c s₁ B hml hv
  obtain ⟨rfl, hG⟩ := hv
  have hts0 := atoms_spec (ws := wsConversions_isSigned) B.pre
  have hts := fun (w : Cond) (h : w ∈ aw) => hts0 w (List.mem_cons_of_mem _ h)
  have hown : s.vm.findClass "BitNumbers$Conversions" = some m.cls := findClass_of_methodNamed B.named
  have hl := lv_entry ([.int a0]) (n := 2) (Nat.le_of_ble_eq_true rfl)
  rw [lg_entry_eq]
  generalize (lg_sl ([.int a0]) ++ List.replicate (2 - (lg_sl ([.int a0])).length) Slot.unset).toArray = ls at hl ⊢
  exact kConversions_isSigned_0 ⟨B.exec, B.bytes, B.returns, hml, hown, hts, B.notSynchronized⟩ a0 hl

set_option maxHeartbeats 4000000 in
set_option maxRecDepth 100000 in
theorem kFormat_isNegative_0 {p : Program} {l : Launch} {e : Env} {s : State} {m : MethodId} {args : Array Value} {below : List Frame} {meth : Method} {c : Code} {ad td : Nat → Nat} (C : pw_C p s m args meth c cFormat_isNegative 3 (some .boolean) "BitNumbers$Format") (hG : pw_G (fun _ => False) ad td s s.heap) (a0 : Nat) (a1 : Int64) (hk0 : a0 < 2) {ls : Array Slot} (hl : lv_has ls 3 [(0, .ref (ad a0)), (1, .long a1)]) : W p l e rmFormat_isNegative s m args below meth c s.heap [] 0 0 (MQ below (k2_QcV (.int (fFormat_isNegative a0 a1))) args s 0 0 (fun _ => False)) (F0 m 0 ls []) := by
  obtain ⟨hx, hb, hr, hml, hown, hts, hlocks⟩ := id C
  have hS : va_S (fun _ => False) s.heap s.heap [] := va_S.rf
  refine lv_lload_n hx hb dFormat_isNegative_0 rfl (lv_at hl 1 rfl) ?_
  refine lv_aload_n hx hb dFormat_isNegative_1 rfl (lv_at hl 0 rfl) ?_
  refine va_getX hx hb hG.2.1.2.2.2.1 hk0 hS hown (hts _ w_808) (fun _ h9 => h9) dFormat_isNegative_2 ?_
  refine lv_land hx hb dFormat_isNegative_5 ?_
  refine lv_lconst (v := 0) hx hb dFormat_isNegative_6 (by decide) ?_
  refine W.lcmp hx hb dFormat_isNegative_7 ?_
  refine lv_if_eq (tgt := 15) hx hb dFormat_isNegative_8 (by decide) (fun h1 => ?_) (fun h1 => ?_)
  · have h1 : (a1 &&& (fm_signBit a0)) = 0 := (lg_cmp_eq _ _).mp h1
    refine lv_iconst (v := 0) hx hb dFormat_isNegative_15 (by decide) ?_
    exact W.zret hx hb hr (pw_nz (Or.inl rfl)) (fun t ht _ => ⟨by rw [(show fFormat_isNegative a0 a1 = 0 by rw [fFormat_isNegative, if_pos h1])], ht⟩) (fun q h => nomatch h) dFormat_isNegative_16
  · have h1 : ¬ ((a1 &&& (fm_signBit a0)) = 0) := fun w => h1 ((lg_cmp_eq _ _).mpr w)
    refine lv_iconst (v := 1) hx hb dFormat_isNegative_11 (by decide) ?_
    refine lv_goto (tgt := 16) hx hb dFormat_isNegative_12 (by decide) ?_
    exact W.zret hx hb hr (pw_nz (Or.inr rfl)) (fun t ht _ => ⟨by rw [(show fFormat_isNegative a0 a1 = 1 by rw [fFormat_isNegative, if_neg h1])], ht⟩) (fun q h => nomatch h) dFormat_isNegative_16
set_option maxHeartbeats 4000000 in
set_option maxRecDepth 100000 in
theorem qFormat_isNegative (l : Launch) (ad td : Nat → Nat) (a0 : Nat) (a1 : Int64) (hk0 : a0 < 2) : Met l yFormat_isNegative wsFormat_isNegative rmFormat_isNegative (va_Pc [.ref (ad a0), .long a1] (fun U => pw_G (fun _ => False) ad td U U.heap)) (k2_QcV (.int (fFormat_isNegative a0 a1))) 0 0 (fun _ => False) := by
  refine Met.ofW (cc := cFormat_isNegative) (maxL := 3) (ret := (some .boolean)) (by decide) rfl ?_
  intro p e s m args below meth c s₁ B hml hv
  obtain ⟨rfl, hG⟩ := hv
  have hts0 := atoms_spec (ws := wsFormat_isNegative) B.pre
  have hts := fun (w : Cond) (h : w ∈ aw) => hts0 w (List.mem_cons_of_mem _ h)
  have hown : s.vm.findClass "BitNumbers$Format" = some m.cls := findClass_of_methodNamed B.named
  have hl := lv_entry ([.ref (ad a0), .long a1]) (n := 3) (Nat.le_of_ble_eq_true rfl)
  rw [lg_entry_eq]
  generalize (lg_sl ([.ref (ad a0), .long a1]) ++ List.replicate (3 - (lg_sl ([.ref (ad a0), .long a1])).length) Slot.unset).toArray = ls at hl ⊢
  exact kFormat_isNegative_0 ⟨B.exec, B.bytes, B.returns, hml, hown, hts, B.notSynchronized⟩ hG a0 a1 hk0 hl

set_option maxHeartbeats 4000000 in
set_option maxRecDepth 100000 in
theorem kWhole_width_0 {p : Program} {l : Launch} {e : Env} {s : State} {m : MethodId} {args : Array Value} {below : List Frame} {meth : Method} {c : Code} (C : pw_C p s m args meth c cWhole_width 1 (some .int) "BitNumbers$Whole") (a0 : Int32) {ls : Array Slot} (hl : lv_has ls 1 [(0, .int a0)]) : W p l e rmWhole_width s m args below meth c s.heap [] 0 0 (MQ below (k2_QcV (.int (fWhole_width a0))) args s 0 0 (fun _ => False)) (F0 m 0 ls []) := by
  obtain ⟨hx, hb, hr, hml, hown, hts, hlocks⟩ := id C
  refine lv_iload_n hx hb dWhole_width_0 rfl (lv_at hl 0 rfl) ?_
  refine lv_if_ne (tgt := 9) hx hb dWhole_width_1 (by decide) (fun h1 => ?_) (fun h1 => ?_)
  · refine lv_bipush (v := 64) hx hb dWhole_width_9 (by decide) ?_
    exact W.iret hx hb hr (fun t ht _ => ⟨by rw [(show fWhole_width a0 = 64 by rw [fWhole_width, if_neg h1])], ht⟩) (fun q h => nomatch h) dWhole_width_11
  · refine lv_bipush (v := 32) hx hb dWhole_width_4 (by decide) ?_
    refine lv_goto (tgt := 11) hx hb dWhole_width_6 (by decide) ?_
    exact W.iret hx hb hr (fun t ht _ => ⟨by rw [(show fWhole_width a0 = 32 by rw [fWhole_width, if_pos h1])], ht⟩) (fun q h => nomatch h) dWhole_width_11
set_option maxHeartbeats 4000000 in
set_option maxRecDepth 100000 in
theorem qWhole_width (l : Launch) (a0 : Int32) : Met l yWhole_width wsWhole_width rmWhole_width (va_Pc [.int a0] (fun _ => True)) (k2_QcV (.int (fWhole_width a0))) 0 0 (fun _ => False) := by
  refine Met.ofW (cc := cWhole_width) (maxL := 1) (ret := (some .int)) (by decide) rfl ?_
  intro p e s m args below meth c s₁ B hml hv
  obtain ⟨rfl, hG⟩ := hv
  have hts0 := atoms_spec (ws := wsWhole_width) B.pre
  have hts := fun (w : Cond) (h : w ∈ aw) => hts0 w (List.mem_cons_of_mem _ h)
  have hown : s.vm.findClass "BitNumbers$Whole" = some m.cls := findClass_of_methodNamed B.named
  have hl := lv_entry ([.int a0]) (n := 1) (Nat.le_of_ble_eq_true rfl)
  rw [lg_entry_eq]
  generalize (lg_sl ([.int a0]) ++ List.replicate (1 - (lg_sl ([.int a0])).length) Slot.unset).toArray = ls at hl ⊢
  exact kWhole_width_0 ⟨B.exec, B.bytes, B.returns, hml, hown, hts, B.notSynchronized⟩ a0 hl

set_option maxHeartbeats 4000000 in
set_option maxRecDepth 100000 in
theorem kWhole_greatest_19 {p : Program} {l : Launch} {e : Env} {s : State} {m : MethodId} {args : Array Value} {below : List Frame} {meth : Method} {c : Code} (C : pw_C p s m args meth c cWhole_greatest 2 (some .long) "BitNumbers$Whole") (s0 : Int32) (s1 : Int32) (s2 : Int64) (hzs0 : s0 = 0 ∨ s0 = 1) {ls : Array Slot} (hl : lv_has ls 2 []) : W p l e rmWhole_greatest s m args below meth c s.heap [] 0 0 (MQ below (k2_QcV (.long (fWhole_greatest_19 s0 s1 s2))) args s 0 0 (fun _ => False)) (F0 m 19 ls [.int s0, .int s1, .long s2]) := by
  obtain ⟨hx, hb, hr, hml, hown, hts, hlocks⟩ := id C
  refine lv_iadd hx hb dWhole_greatest_19 ?_
  refine lv_lushr (v := bn_shr s2 (s1 + s0)) hx hb dWhole_greatest_20 rfl ?_
  exact W.lret hx hb hr (fun t ht _ => ⟨by rw [(show fWhole_greatest_19 s0 s1 s2 = bn_shr s2 (s1 + s0) by rw [fWhole_greatest_19])], ht⟩) (fun q h => nomatch h) dWhole_greatest_21
set_option maxHeartbeats 4000000 in
set_option maxRecDepth 100000 in
theorem kWhole_greatest_0 {p : Program} {l : Launch} {e : Env} {s : State} {m : MethodId} {args : Array Value} {below : List Frame} {meth : Method} {c : Code} (C : pw_C p s m args meth c cWhole_greatest 2 (some .long) "BitNumbers$Whole") (a0 : Int32) (a1 : Int32) {ls : Array Slot} (hl : lv_has ls 2 [(0, .int a0), (1, .int a1)]) : W p l e rmWhole_greatest s m args below meth c s.heap [] 0 0 (MQ below (k2_QcV (.long (fWhole_greatest a0 a1))) args s 0 0 (fun _ => False)) (F0 m 0 ls []) := by
  obtain ⟨hx, hb, hr, hml, hown, hts, hlocks⟩ := id C
  refine lv_ldc2 hx hb hown (hts _ w_291) dWhole_greatest_0 ?_
  refine lv_bipush (v := 64) hx hb dWhole_greatest_3 (by decide) ?_
  refine lv_iload_n hx hb dWhole_greatest_5 rfl (lv_at hl 0 rfl) ?_
  refine pw_call (va_runS (As := [.int a0]) (rest := [.int 64, .long (-1)]) ⟨hx, hb, hml, hown, hts⟩ (qWhole_width l a0) (va_cwS 1 hts (gS w_292 w_293 w_35 w_294) rfl rfl rfl (by decide +kernel) ⟨Nat.le_of_ble_eq_true rfl, Nat.le_of_ble_eq_true rfl⟩) ⟨pw_bT, fun U hU hW => ⟨rfl, trivial⟩⟩ rfl rfl hl.1 rfl (lv_room (Nat.le_of_ble_eq_true rfl)) dWhole_greatest_6 ⟨Nat.zero_le _, Nat.zero_le _⟩) ?_
  refine lv_isub hx hb dWhole_greatest_9 ?_
  refine lv_iload_n hx hb dWhole_greatest_10 rfl (lv_at hl 1 rfl) ?_
  refine lv_if_eq (tgt := 18) hx hb dWhole_greatest_11 (by decide) (fun h1 => ?_) (fun h1 => ?_)
  · refine lv_iconst (v := 0) hx hb dWhole_greatest_18 (by decide) ?_
    rw [(show fWhole_greatest a0 a1 = fWhole_greatest_19 0 (64 - (fWhole_width a0)) (-1) by rw [fWhole_greatest, if_pos h1])]
    exact kWhole_greatest_19 C 0 (64 - (fWhole_width a0)) (-1) (Or.inl rfl) (lv_sub hl [] rfl)
  · refine lv_iconst (v := 1) hx hb dWhole_greatest_14 (by decide) ?_
    refine lv_goto (tgt := 19) hx hb dWhole_greatest_15 (by decide) ?_
    rw [(show fWhole_greatest a0 a1 = fWhole_greatest_19 1 (64 - (fWhole_width a0)) (-1) by rw [fWhole_greatest, if_neg h1])]
    exact kWhole_greatest_19 C 1 (64 - (fWhole_width a0)) (-1) (Or.inr rfl) (lv_sub hl [] rfl)
set_option maxHeartbeats 4000000 in
set_option maxRecDepth 100000 in
theorem qWhole_greatest (l : Launch) (a0 : Int32) (a1 : Int32) : Met l yWhole_greatest wsWhole_greatest rmWhole_greatest (va_Pc [.int a0, .int a1] (fun _ => True)) (k2_QcV (.long (fWhole_greatest a0 a1))) 0 0 (fun _ => False) := by
  refine Met.ofW (cc := cWhole_greatest) (maxL := 2) (ret := (some .long)) (by decide) rfl ?_
  intro p e s m args below meth c s₁ B hml hv
  obtain ⟨rfl, hG⟩ := hv
  have hts0 := atoms_spec (ws := wsWhole_greatest) B.pre
  have hts := fun (w : Cond) (h : w ∈ aw) => hts0 w (List.mem_cons_of_mem _ h)
  have hown : s.vm.findClass "BitNumbers$Whole" = some m.cls := findClass_of_methodNamed B.named
  have hl := lv_entry ([.int a0, .int a1]) (n := 2) (Nat.le_of_ble_eq_true rfl)
  rw [lg_entry_eq]
  generalize (lg_sl ([.int a0, .int a1]) ++ List.replicate (2 - (lg_sl ([.int a0, .int a1])).length) Slot.unset).toArray = ls at hl ⊢
  exact kWhole_greatest_0 ⟨B.exec, B.bytes, B.returns, hml, hown, hts, B.notSynchronized⟩ a0 a1 hl

set_option maxHeartbeats 4000000 in
set_option maxRecDepth 100000 in
theorem kConversions_limit_0 {p : Program} {l : Launch} {e : Env} {s : State} {m : MethodId} {args : Array Value} {below : List Frame} {meth : Method} {c : Code} {ad td : Nat → Nat} (C : pw_C p s m args meth c cConversions_limit 5 (some .long) "BitNumbers$Conversions") (hG : pw_G (fun _ => False) ad td s s.heap) (a0 : Nat) (a1 : Int64) (a3 : Int32) (a4 : Int32) (hk0 : a0 < 2) {ls : Array Slot} (hl : lv_has ls 5 [(0, .ref (ad a0)), (1, .long a1), (3, .int a3), (4, .int a4)]) : W p l e rmConversions_limit s m args below meth c s.heap [] 0 0 (MQ below (k2_QcV (.long (fConversions_limit a0 a1 a3 a4))) args s 0 0 (fun _ => False)) (F0 m 0 ls []) := by
  obtain ⟨hx, hb, hr, hml, hown, hts, hlocks⟩ := id C
  have hS : va_S (fun _ => False) s.heap s.heap [] := va_S.rf
  refine lv_aload_n hx hb dConversions_limit_0 rfl (lv_at hl 0 rfl) ?_
  refine lv_lload_n hx hb dConversions_limit_1 rfl (lv_at hl 1 rfl) ?_
  refine pw_call (va_runV (As := [.long a1]) (rest := []) ⟨hx, hb, hml, hown, hts⟩ (qFormat_isNegative l ad td a0 a1 hk0) (cwV 1 hts (gV w_314 w_142 w_143 w_44 w_144) rfl rfl rfl (by decide +kernel) ⟨Nat.le_of_ble_eq_true rfl, Nat.le_of_ble_eq_true rfl⟩) ⟨pw_bG, va_recvE hG.1 hk0 hS, fun U hU hW => ⟨rfl, (hG.at hU hW)⟩⟩ rfl rfl hl.1 rfl (lv_room (Nat.le_of_ble_eq_true rfl)) dConversions_limit_2 ⟨Nat.zero_le _, Nat.zero_le _⟩) ?_
  refine lv_if_ne (tgt := 15) hx hb dConversions_limit_5 (by decide) (fun h1 => ?_) (fun h1 => ?_)
  · refine lv_iload hx hb dConversions_limit_15 (lv_at hl 3 rfl) ?_
    refine lv_if_eq (tgt := 30) hx hb dConversions_limit_17 (by decide) (fun h2 => ?_) (fun h2 => ?_)
    · refine lv_lconst (v := 0) hx hb dConversions_limit_30 (by decide) ?_
      exact W.lret hx hb hr (fun t ht _ => ⟨by rw [(show fConversions_limit a0 a1 a3 a4 = 0 by rw [fConversions_limit, if_neg h1, if_pos h2])], ht⟩) (fun q h => nomatch h) dConversions_limit_31
    · refine lv_iload_n hx hb dConversions_limit_20 rfl (lv_at hl 2 rfl) ?_
      refine lv_iconst (v := 1) hx hb dConversions_limit_21 (by decide) ?_
      refine pw_call (va_runS (As := [.int a3, .int 1]) (rest := []) ⟨hx, hb, hml, hown, hts⟩ (qWhole_greatest l a3 1) (va_cwS 2 hts (gS w_315 w_289 w_35 w_290) rfl rfl rfl (by decide +kernel) ⟨Nat.le_of_ble_eq_true rfl, Nat.le_of_ble_eq_true rfl⟩) ⟨pw_bT, fun U hU hW => ⟨rfl, trivial⟩⟩ rfl rfl hl.1 rfl (lv_room (Nat.le_of_ble_eq_true rfl)) dConversions_limit_22 ⟨Nat.zero_le _, Nat.zero_le _⟩) ?_
      refine lv_lconst (v := 1) hx hb dConversions_limit_25 (by decide) ?_
      refine lv_ladd hx hb dConversions_limit_26 ?_
      refine lv_goto (tgt := 31) hx hb dConversions_limit_27 (by decide) ?_
      exact W.lret hx hb hr (fun t ht _ => ⟨by rw [(show fConversions_limit a0 a1 a3 a4 = (fWhole_greatest a3 1) + 1 by rw [fConversions_limit, if_neg h1, if_neg h2])], ht⟩) (fun q h => nomatch h) dConversions_limit_31
  · refine lv_iload_n hx hb dConversions_limit_8 rfl (lv_at hl 2 rfl) ?_
    refine lv_iload hx hb dConversions_limit_9 (lv_at hl 3 rfl) ?_
    refine pw_call (va_runS (As := [.int a3, .int a4]) (rest := []) ⟨hx, hb, hml, hown, hts⟩ (qWhole_greatest l a3 a4) (va_cwS 2 hts (gS w_315 w_289 w_35 w_290) rfl rfl rfl (by decide +kernel) ⟨Nat.le_of_ble_eq_true rfl, Nat.le_of_ble_eq_true rfl⟩) ⟨pw_bT, fun U hU hW => ⟨rfl, trivial⟩⟩ rfl rfl hl.1 rfl (lv_room (Nat.le_of_ble_eq_true rfl)) dConversions_limit_11 ⟨Nat.zero_le _, Nat.zero_le _⟩) ?_
    exact W.lret hx hb hr (fun t ht _ => ⟨by rw [(show fConversions_limit a0 a1 a3 a4 = fWhole_greatest a3 a4 by rw [fConversions_limit, if_pos h1])], ht⟩) (fun q h => nomatch h) dConversions_limit_14
set_option maxHeartbeats 4000000 in
set_option maxRecDepth 100000 in
theorem qConversions_limit (l : Launch) (ad td : Nat → Nat) (a0 : Nat) (a1 : Int64) (a3 : Int32) (a4 : Int32) (hk0 : a0 < 2) : Met l yConversions_limit wsConversions_limit rmConversions_limit (va_Pc [.ref (ad a0), .long a1, .int a3, .int a4] (fun U => pw_G (fun _ => False) ad td U U.heap)) (k2_QcV (.long (fConversions_limit a0 a1 a3 a4))) 0 0 (fun _ => False) := by
  refine Met.ofW (cc := cConversions_limit) (maxL := 5) (ret := (some .long)) (by decide) rfl ?_
  intro p e s m args below meth c s₁ B hml hv
  obtain ⟨rfl, hG⟩ := hv
  have hts0 := atoms_spec (ws := wsConversions_limit) B.pre
  have hts := fun (w : Cond) (h : w ∈ aw) => hts0 w (List.mem_cons_of_mem _ h)
  have hown : s.vm.findClass "BitNumbers$Conversions" = some m.cls := findClass_of_methodNamed B.named
  have hl := lv_entry ([.ref (ad a0), .long a1, .int a3, .int a4]) (n := 5) (Nat.le_of_ble_eq_true rfl)
  rw [lg_entry_eq]
  generalize (lg_sl ([.ref (ad a0), .long a1, .int a3, .int a4]) ++ List.replicate (5 - (lg_sl ([.ref (ad a0), .long a1, .int a3, .int a4])).length) Slot.unset).toArray = ls at hl ⊢
  exact kConversions_limit_0 ⟨B.exec, B.bytes, B.returns, hml, hown, hts, B.notSynchronized⟩ hG a0 a1 a3 a4 hk0 hl

set_option maxHeartbeats 4000000 in
set_option maxRecDepth 100000 in
theorem kFormat_exponent_0 {p : Program} {l : Launch} {e : Env} {s : State} {m : MethodId} {args : Array Value} {below : List Frame} {meth : Method} {c : Code} {ad td : Nat → Nat} (C : pw_C p s m args meth c cFormat_exponent 3 (some .int) "BitNumbers$Format") (hG : pw_G (fun _ => False) ad td s s.heap) (a0 : Nat) (a1 : Int64) (hk0 : a0 < 2) {ls : Array Slot} (hl : lv_has ls 3 [(0, .ref (ad a0)), (1, .long a1)]) : W p l e rmFormat_exponent s m args below meth c s.heap [] 0 0 (MQ below (k2_QcV (.int (fFormat_exponent a0 a1))) args s 0 0 (fun _ => False)) (F0 m 0 ls []) := by
  obtain ⟨hx, hb, hr, hml, hown, hts, hlocks⟩ := id C
  have hS : va_S (fun _ => False) s.heap s.heap [] := va_S.rf
  refine lv_lload_n hx hb dFormat_exponent_0 rfl (lv_at hl 1 rfl) ?_
  refine lv_aload_n hx hb dFormat_exponent_1 rfl (lv_at hl 0 rfl) ?_
  refine va_getX hx hb hG.2.1.1 hk0 hS hown (hts _ w_811) (fun _ h9 => h9) dFormat_exponent_2 ?_
  refine lv_iconst (v := 1) hx hb dFormat_exponent_5 (by decide) ?_
  refine lv_isub hx hb dFormat_exponent_6 ?_
  refine lv_lushr (v := bn_shr a1 ((fm_places a0) - 1)) hx hb dFormat_exponent_7 rfl ?_
  refine lv_l2i hx hb dFormat_exponent_8 rfl ?_
  refine lv_aload_n hx hb dFormat_exponent_9 rfl (lv_at hl 0 rfl) ?_
  refine va_getX hx hb hG.2.1.2.1 hk0 hS hown (hts _ w_812) (fun _ h9 => h9) dFormat_exponent_10 ?_
  refine lv_iand hx hb dFormat_exponent_13 ?_
  exact W.iret hx hb hr (fun t ht _ => ⟨by rw [(show fFormat_exponent a0 a1 = ((bn_shr a1 ((fm_places a0) - 1)).toInt32) &&& (fm_greatestExponent a0) by rw [fFormat_exponent])], ht⟩) (fun q h => nomatch h) dFormat_exponent_14
set_option maxHeartbeats 4000000 in
set_option maxRecDepth 100000 in
theorem qFormat_exponent (l : Launch) (ad td : Nat → Nat) (a0 : Nat) (a1 : Int64) (hk0 : a0 < 2) : Met l yFormat_exponent wsFormat_exponent rmFormat_exponent (va_Pc [.ref (ad a0), .long a1] (fun U => pw_G (fun _ => False) ad td U U.heap)) (k2_QcV (.int (fFormat_exponent a0 a1))) 0 0 (fun _ => False) := by
  refine Met.ofW (cc := cFormat_exponent) (maxL := 3) (ret := (some .int)) (by decide) rfl ?_
  intro p e s m args below meth c s₁ B hml hv
  obtain ⟨rfl, hG⟩ := hv
  have hts0 := atoms_spec (ws := wsFormat_exponent) B.pre
  have hts := fun (w : Cond) (h : w ∈ aw) => hts0 w (List.mem_cons_of_mem _ h)
  have hown : s.vm.findClass "BitNumbers$Format" = some m.cls := findClass_of_methodNamed B.named
  have hl := lv_entry ([.ref (ad a0), .long a1]) (n := 3) (Nat.le_of_ble_eq_true rfl)
  rw [lg_entry_eq]
  generalize (lg_sl ([.ref (ad a0), .long a1]) ++ List.replicate (3 - (lg_sl ([.ref (ad a0), .long a1])).length) Slot.unset).toArray = ls at hl ⊢
  exact kFormat_exponent_0 ⟨B.exec, B.bytes, B.returns, hml, hown, hts, B.notSynchronized⟩ hG a0 a1 hk0 hl
end
