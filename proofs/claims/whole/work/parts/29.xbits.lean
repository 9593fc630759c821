/-! ===== Long.bitCount, Integer.bitCount ===== -/
theorem wb_cu32 : ∀ k, k < 32 → ((nI k).toUInt32 &&& Int32.toUInt32 31) = UInt32.ofNat k := by decide +kernel
theorem wb_tn32 {n : Nat} (h : n < 2 ^ 32) : (nI n).toBitVec.toNat = n := by
  show (BitVec.ofNat 32 n).toNat = n
  rw [BitVec.toNat_ofNat, Nat.mod_eq_of_lt h]
theorem wb_sh32 {n k : Nat} (hn : n < 2 ^ 32) (hk : k < 32) : ((nI n).toUInt32 >>> ((nI k).toUInt32 &&& Int32.toUInt32 31)).toInt32 = nI (n / 2 ^ k) := by
  rw [wb_cu32 k hk]
  apply Int32.toBitVec_inj.mp
  apply BitVec.eq_of_toNat_eq
  show ((nI n).toUInt32 >>> UInt32.ofNat k).toNat = (BitVec.ofNat 32 _).toNat
  have h1 : (UInt32.ofNat k).toNat = k := by
    show (BitVec.ofNat 32 k).toNat = k
    rw [BitVec.toNat_ofNat, Nat.mod_eq_of_lt (by omega)]
  have h2 : (nI n).toUInt32.toNat = n := wb_tn32 hn
  rw [UInt32.toNat_shiftRight, h1, h2, Nat.mod_eq_of_lt hk, Nat.shiftRight_eq_div_pow, BitVec.toNat_ofNat, Nat.mod_eq_of_lt (Nat.lt_of_le_of_lt (Nat.div_le_self _ _) hn)]
theorem and_I (a b : Nat) : nI a &&& nI b = nI (a &&& b) := by
  apply Int32.toBitVec_inj.1
  show BitVec.ofNat 32 a &&& BitVec.ofNat 32 b = BitVec.ofNat 32 (a &&& b)
  apply BitVec.eq_of_getLsbD_eq
  intro i hi
  simp [hi]
theorem or_I (a b : Nat) : nI a ||| nI b = nI (a ||| b) := by
  apply Int32.toBitVec_inj.1
  show BitVec.ofNat 32 a ||| BitVec.ofNat 32 b = BitVec.ofNat 32 (a ||| b)
  apply BitVec.eq_of_getLsbD_eq
  intro i hi
  simp [hi]
section MOREN
variable {X : XT} {G : GT} {own : String} {cc : ByteArray} {nL n mc ms : Nat} {kc ks : Nat} {ok : KF} {ad : AD} {σ : SG} {l : List (Nat × Value)} {pc : Nat} {st : List Value} {a b p : Nat}
theorem v_lushrN (hC : Cx X G own cc nL n mc ms) (d : decode cc pc = .ok (.lushr, 1)) (ha : a < 2 ^ 64) (hp : p < 64) (k : V X G kc ks ok ad σ l (pc + 1) (jv (a / 2 ^ p) :: st)) : V X G kc ks ok ad σ l pc (iv p :: jv a :: st) := v_lushr hC d (wb_shr ha hp) k
theorem v_iushrN (hC : Cx X G own cc nL n mc ms) (d : decode cc pc = .ok (.iushr, 1)) (ha : a < 2 ^ 32) (hp : p < 32) (k : V X G kc ks ok ad σ l (pc + 1) (iv (a / 2 ^ p) :: st)) : V X G kc ks ok ad σ l pc (iv p :: iv a :: st) := v_iushr hC d (wb_sh32 ha hp) k
theorem v_lsubN (hC : Cx X G own cc nL n mc ms) (d : decode cc pc = .ok (.lsub, 1)) (h : b ≤ a) (k : V X G kc ks ok ad σ l (pc + 1) (jv (a - b) :: st)) : V X G kc ks ok ad σ l pc (jv b :: jv a :: st) := v_lsub hC d (by rw [lN_sub h]; exact k)
theorem v_l2iN (hC : Cx X G own cc nL n mc ms) (d : decode cc pc = .ok (.l2i, 1)) (k : V X G kc ks ok ad σ l (pc + 1) (iv a :: st)) : V X G kc ks ok ad σ l pc (jv a :: st) := v_l2i hC d (lN_i a) k
theorem v_iandN (hC : Cx X G own cc nL n mc ms) (d : decode cc pc = .ok (.iand, 1)) (k : V X G kc ks ok ad σ l (pc + 1) (iv (a &&& b) :: st)) : V X G kc ks ok ad σ l pc (iv b :: iv a :: st) := v_iand hC d (by rw [and_I]; exact k)
theorem v_iorN (hC : Cx X G own cc nL n mc ms) (d : decode cc pc = .ok (.ior, 1)) (k : V X G kc ks ok ad σ l (pc + 1) (iv (a ||| b) :: st)) : V X G kc ks ok ad σ l pc (iv b :: iv a :: st) := v_ior hC d (by rw [or_I]; exact k)
theorem shl_I (x : Nat) {k : Nat} (hk : k < 32) : nI x <<< (nI k &&& 31) = nI (x * 2 ^ k) := by
  have e : (nI k &&& 31) = nI k := by
    rw [show (31 : Int32) = nI 31 from rfl, and_I, show (31 : Nat) = 2 ^ 5 - 1 from rfl, Nat.and_two_pow_sub_one_eq_mod, Nat.mod_eq_of_lt hk]
  rw [e]
  apply Int32.toBitVec_inj.mp
  have hsm : ∀ k, k < 32 → (BitVec.ofNat 32 k).smod 32 = BitVec.ofNat 32 k := by decide +kernel
  rw [Int32.toBitVec_shiftLeft]
  show BitVec.ofNat 32 x <<< (BitVec.ofNat 32 k).smod 32 = BitVec.ofNat 32 (x * 2 ^ k)
  rw [hsm k hk]
  apply BitVec.eq_of_toNat_eq
  rw [BitVec.shiftLeft_eq', BitVec.toNat_shiftLeft, BitVec.toNat_ofNat, BitVec.toNat_ofNat, BitVec.toNat_ofNat, Nat.mod_eq_of_lt (show k < 2 ^ 32 by omega), Nat.shiftLeft_eq, Nat.mul_mod, Nat.mod_mod, ← Nat.mul_mod]
theorem v_ishlN (hC : Cx X G own cc nL n mc ms) (d : decode cc pc = .ok (.ishl, 1)) (hp : p < 32) (k : V X G kc ks ok ad σ l (pc + 1) (iv (a * 2 ^ p) :: st)) : V X G kc ks ok ad σ l pc (iv p :: iv a :: st) := v_ishl hC d (by rw [shl_I a hp]; exact k)
theorem v_iincK {i z : Nat} (hC : Cx X G own cc nL n mc ms) (d : decode cc pc = .ok (.iinc i (z : Int), 3)) (h : lvg l i = some (iv a)) (hz : Int32.ofInt (z : Int) = nI z) (hn : i < nL) (k : V X G kc ks ok ad σ (lvp l i (iv (a + z))) (pc + 3) st) : V X G kc ks ok ad σ l pc st := v_iinc hC d h (by rw [hz]; exact nI_add a z) hn k
theorem v_icmp_eqM {off : Int} {tgt : Nat} (hC : Cx X G own cc nL n mc ms) (d : decode cc pc = .ok (.if_icmp .eq off, 3)) (ht : (pc : Int) + off = (tgt : Int)) (ha : a < 2 ^ 31) (hb : b < 2 ^ 31) (kt : a = b → V X G kc ks ok ad σ l tgt st) (kf : a ≠ b → V X G kc ks ok ad σ l (pc + 3) st) : V X G kc ks ok ad σ l pc (.int (dm b) :: .int (dm a) :: st) := v_icmp_eq hC d ht (fun q => kt ((dm_inj ha hb).mp q)) (fun q => kf (fun z => q ((dm_inj ha hb).mpr z)))
theorem v_icmp_neM {off : Int} {tgt : Nat} (hC : Cx X G own cc nL n mc ms) (d : decode cc pc = .ok (.if_icmp .ne off, 3)) (ht : (pc : Int) + off = (tgt : Int)) (ha : a < 2 ^ 31) (hb : b < 2 ^ 31) (kt : a ≠ b → V X G kc ks ok ad σ l tgt st) (kf : a = b → V X G kc ks ok ad σ l (pc + 3) st) : V X G kc ks ok ad σ l pc (.int (dm b) :: .int (dm a) :: st) := v_icmp_ne hC d ht (fun q => kt (fun z => q ((dm_inj ha hb).mpr z))) (fun q => kf ((dm_inj ha hb).mp q))
end MOREN
theorem kl_J13_314 : Cond.constantLong "java/lang/Long" 314 (lN (mkm 85 8)) ∈ lw_good := gd_at 499 (by decide +kernel) (by decide +kernel)
theorem kl_J13_316 : Cond.constantLong "java/lang/Long" 316 (lN (mkm 51 8)) ∈ lw_good := gd_at 500 (by decide +kernel) (by decide +kernel)
theorem kl_J13_318 : Cond.constantLong "java/lang/Long" 318 (lN (mkm 15 8)) ∈ lw_good := gd_at 501 (by decide +kernel) (by decide +kernel)
theorem ki_J6_265 : Cond.constant "java/lang/Integer" 265 (nI (mkm 85 4)) ∈ lw_good := gd_at 849 (by decide +kernel) (by decide +kernel)
theorem ki_J6_266 : Cond.constant "java/lang/Integer" 266 (nI (mkm 51 4)) ∈ lw_good := gd_at 850 (by decide +kernel) (by decide +kernel)
theorem ki_J6_267 : Cond.constant "java/lang/Integer" 267 (nI (mkm 15 4)) ∈ lw_good := gd_at 851 (by decide +kernel) (by decide +kernel)
def ipop (m : Nat) : Nat := cnt m.testBit 32
theorem ipop_le (m : Nat) : ipop m ≤ 32 := cnt_le _ 32
theorem bc32 (n : Nat) (h : n < 2 ^ 32) (a4 a5 : Nat) (h4 : a4 = dg (fun b => cnt b.testBit 8) 4 n + dg (fun b => cnt b.testBit 8) 4 n / 256) (h5 : a5 = a4 + a4 / 65536) : a5 % 64 = ipop n := by
  unfold ipop
  rw [show (32 : Nat) = 8 + (8 + (8 + (8 + 0))) from rfl]
  simp only [cnt_dig]
  simp only [dg] at h4
  have p0 := c8_le (n % 256)
  have p1 := c8_le (n / 256 % 256)
  have p2 := c8_le (n / 256 / 256 % 256)
  have p3 := c8_le (n / 256 / 256 / 256 % 256)
  generalize cnt (n % 256).testBit 8 = q0 at *
  generalize cnt (n / 256 % 256).testBit 8 = q1 at *
  generalize cnt (n / 256 / 256 % 256).testBit 8 = q2 at *
  generalize cnt (n / 256 / 256 / 256 % 256).testBit 8 = q3 at *
  show _ = q0 + (q1 + (q2 + (q3 + 0)))
  have e3 : (q0 + 256 * (q1 + 256 * (q2 + 256 * (q3 + 256 * 0)))) / 256 = q1 + 256 * (q2 + 256 * q3) := by omega
  rw [e3] at h4
  have e4 : a4 / 65536 = (q2 + q3) + 256 * q3 := by omega
  omega
theorem p64 : (256 : Nat) ^ 8 = 2 ^ 64 := by decide +kernel
theorem p32 : (256 : Nat) ^ 4 = 2 ^ 32 := by decide +kernel
theorem bcn_lt {K n : Nat} (h : n < 256 ^ K) : bcn K n < 256 ^ K := by
  rw [(bcn_dg K n h).1]
  exact dg_lt (fun b hb => (h2_ok b hb).1) K n
theorem pd_le (n : Nat) : ∀ K, dg (fun b => cnt b.testBit 8) K n < 16 * 256 ^ K := fun K => Nat.lt_of_lt_of_le (dg_lt (fun b _ => Nat.lt_of_le_of_lt (c8_le b) (by decide)) K n) (by omega)
theorem c8_pd (n : Nat) : dg (fun b => cnt b.testBit 8) 8 n < 2 ^ 61 := by
  simp only [dg]
  have p0 := c8_le (n % 256)
  have p1 := c8_le (n / 256 % 256)
  have p2 := c8_le (n / 256 / 256 % 256)
  have p3 := c8_le (n / 256 / 256 / 256 % 256)
  have p4 := c8_le (n / 256 / 256 / 256 / 256 % 256)
  have p5 := c8_le (n / 256 / 256 / 256 / 256 / 256 % 256)
  have p6 := c8_le (n / 256 / 256 / 256 / 256 / 256 / 256 % 256)
  have p7 := c8_le (n / 256 / 256 / 256 / 256 / 256 / 256 / 256 % 256)
  omega
theorem c8_pd4 (n : Nat) : dg (fun b => cnt b.testBit 8) 4 n < 2 ^ 29 := by
  simp only [dg]
  have p0 := c8_le (n % 256)
  have p1 := c8_le (n / 256 % 256)
  have p2 := c8_le (n / 256 / 256 % 256)
  have p3 := c8_le (n / 256 / 256 / 256 % 256)
  omega
set_option maxHeartbeats 4000000 in
set_option maxRecDepth 100000 in
theorem c_J13_bitCount_95d88 {l : Launch} (hl0 : l.stackTraces = false) {G : GT} {ok : KF} {ad : AD} {σ : SG} {m : Nat} (hm : m < 2 ^ 64) : Ct l G 0 yJ13_bitCount_95d88 cJ13_bitCount_95d88 2 (some .int) [jv m] ok ad σ (Rt (some (iv (pop m))) ok ad σ) (NX) 0 0 := by
  refine Ct.mk (by decide +kernel) hl0 (Nat.le_of_ble_eq_true rfl) (fun X hX hC hM => ?_)
  subst hX
  have hm8 : m < 256 ^ 8 := by rw [p64]; exact hm
  obtain ⟨q1, q2⟩ := bcn_dg 8 m hm8
  have b1 := bcn_lt hm8
  rw [p64] at b1
  have e1 : (2 : Nat) ^ 1 = 2 := rfl
  have e2 : (2 : Nat) ^ 2 = 4 := rfl
  have e4 : (2 : Nat) ^ 4 = 16 := rfl
  have e8 : (2 : Nat) ^ 8 = 256 := rfl
  have e16 : (2 : Nat) ^ 16 = 65536 := rfl
  have e32 : (2 : Nat) ^ 32 = 4294967296 := rfl
  refine v_lload_n hC dJ13_bitCount_95d88_0 rfl ?_
  refine v_lload_n hC dJ13_bitCount_95d88_1 rfl ?_
  refine v_iconst (v := nI 1) hC dJ13_bitCount_95d88_2 (by decide) ?_
  refine v_lushrN hC dJ13_bitCount_95d88_3 hm (by decide) ?_
  refine v_ldc2 hC dJ13_bitCount_95d88_4 kl_J13_314 ?_
  refine v_landN hC dJ13_bitCount_95d88_7 ?_
  refine v_lsubN hC dJ13_bitCount_95d88_8 (Nat.le_trans Nat.and_le_left (Nat.div_le_self _ _)) ?_
  rw [e1]
  generalize hx : m - (m / 2 &&& mkm 85 8) = x
  have hxm : x < 2 ^ 64 := by omega
  refine v_lstore_n hC dJ13_bitCount_95d88_9 (by decide) ?_
  refine v_lload_n hC dJ13_bitCount_95d88_10 rfl ?_
  refine v_ldc2 hC dJ13_bitCount_95d88_11 kl_J13_316 ?_
  refine v_landN hC dJ13_bitCount_95d88_14 ?_
  refine v_lload_n hC dJ13_bitCount_95d88_15 rfl ?_
  refine v_iconst (v := nI 2) hC dJ13_bitCount_95d88_16 (by decide) ?_
  refine v_lushrN hC dJ13_bitCount_95d88_17 hxm (by decide) ?_
  refine v_ldc2 hC dJ13_bitCount_95d88_18 kl_J13_316 ?_
  refine v_landN hC dJ13_bitCount_95d88_21 ?_
  refine v_laddN hC dJ13_bitCount_95d88_22 ?_
  rw [e2, show (x &&& mkm 51 8) + (x / 4 &&& mkm 51 8) = bcn 8 m from by rw [← hx]; rfl]
  generalize hy : bcn 8 m = y at *
  refine v_lstore_n hC dJ13_bitCount_95d88_23 (by decide) ?_
  refine v_lload_n hC dJ13_bitCount_95d88_24 rfl ?_
  refine v_lload_n hC dJ13_bitCount_95d88_25 rfl ?_
  refine v_iconst (v := nI 4) hC dJ13_bitCount_95d88_26 (by decide) ?_
  refine v_lushrN hC dJ13_bitCount_95d88_27 b1 (by decide) ?_
  refine v_laddN hC dJ13_bitCount_95d88_28 ?_
  refine v_ldc2 hC dJ13_bitCount_95d88_29 kl_J13_318 ?_
  refine v_landN hC dJ13_bitCount_95d88_32 ?_
  rw [e4, q2]
  have hz1 := c8_pd m
  have hb := bc64 m hm _ _ _ rfl rfl rfl
  generalize dg (fun b => cnt b.testBit 8) 8 m = z at *
  refine v_lstore_n hC dJ13_bitCount_95d88_33 (by decide) ?_
  refine v_lload_n hC dJ13_bitCount_95d88_34 rfl ?_
  refine v_lload_n hC dJ13_bitCount_95d88_35 rfl ?_
  refine v_bipush (v := nI 8) hC dJ13_bitCount_95d88_36 (by decide) ?_
  refine v_lushrN hC dJ13_bitCount_95d88_38 (by omega) (by decide) ?_
  refine v_laddN hC dJ13_bitCount_95d88_39 ?_
  refine v_lstore_n hC dJ13_bitCount_95d88_40 (by decide) ?_
  refine v_lload_n hC dJ13_bitCount_95d88_41 rfl ?_
  refine v_lload_n hC dJ13_bitCount_95d88_42 rfl ?_
  refine v_bipush (v := nI 16) hC dJ13_bitCount_95d88_43 (by decide) ?_
  rw [e8]
  refine v_lushrN hC dJ13_bitCount_95d88_45 (by omega) (by decide) ?_
  refine v_laddN hC dJ13_bitCount_95d88_46 ?_
  refine v_lstore_n hC dJ13_bitCount_95d88_47 (by decide) ?_
  refine v_lload_n hC dJ13_bitCount_95d88_48 rfl ?_
  refine v_lload_n hC dJ13_bitCount_95d88_49 rfl ?_
  refine v_bipush (v := nI 32) hC dJ13_bitCount_95d88_50 (by decide) ?_
  rw [e16]
  refine v_lushrN hC dJ13_bitCount_95d88_52 (by omega) (by decide) ?_
  refine v_laddN hC dJ13_bitCount_95d88_53 ?_
  refine v_lstore_n hC dJ13_bitCount_95d88_54 (by decide) ?_
  refine v_lload_n hC dJ13_bitCount_95d88_55 rfl ?_
  refine v_l2iN hC dJ13_bitCount_95d88_56 ?_
  refine v_bipush (v := nI 127) hC dJ13_bitCount_95d88_57 (by decide) ?_
  refine v_iandN hC dJ13_bitCount_95d88_59 ?_
  rw [e32, show (127 : Nat) = 2 ^ 7 - 1 from rfl, Nat.and_two_pow_sub_one_eq_mod, show (2 : Nat) ^ 7 = 128 from rfl, hb]
  refine v_iret hC hM dJ13_bitCount_95d88_60 (by omega) (by omega) ?_
  exact ⟨rfl, rfl⟩
set_option maxHeartbeats 4000000 in
set_option maxRecDepth 100000 in
theorem c_J6_bitCount_0f7a4 {l : Launch} (hl0 : l.stackTraces = false) {G : GT} {ok : KF} {ad : AD} {σ : SG} {m : Nat} (hm : m < 2 ^ 32) : Ct l G 0 yJ6_bitCount_0f7a4 cJ6_bitCount_0f7a4 1 (some .int) [iv m] ok ad σ (Rt (some (iv (ipop m))) ok ad σ) (NX) 0 0 := by
  refine Ct.mk (by decide +kernel) hl0 (Nat.le_of_ble_eq_true rfl) (fun X hX hC hM => ?_)
  subst hX
  have hm8 : m < 256 ^ 4 := by rw [p32]; exact hm
  obtain ⟨q1, q2⟩ := bcn_dg 4 m hm8
  have b1 := bcn_lt hm8
  rw [p32] at b1
  have e1 : (2 : Nat) ^ 1 = 2 := rfl
  have e2 : (2 : Nat) ^ 2 = 4 := rfl
  have e4 : (2 : Nat) ^ 4 = 16 := rfl
  have e8 : (2 : Nat) ^ 8 = 256 := rfl
  have e16 : (2 : Nat) ^ 16 = 65536 := rfl
  refine v_iload_n hC dJ6_bitCount_0f7a4_0 rfl ?_
  refine v_iload_n hC dJ6_bitCount_0f7a4_1 rfl ?_
  refine v_iconst (v := nI 1) hC dJ6_bitCount_0f7a4_2 (by decide) ?_
  refine v_iushrN hC dJ6_bitCount_0f7a4_3 hm (by decide) ?_
  refine v_ldcw hC dJ6_bitCount_0f7a4_4 ki_J6_265 ?_
  refine v_iandN hC dJ6_bitCount_0f7a4_7 ?_
  refine v_isubN hC dJ6_bitCount_0f7a4_8 (Nat.le_trans Nat.and_le_left (Nat.div_le_self _ _)) ?_
  rw [e1]
  generalize hx : m - (m / 2 &&& mkm 85 4) = x
  have hxm : x < 2 ^ 32 := by omega
  refine v_istore_n hC dJ6_bitCount_0f7a4_9 (by decide) ?_
  refine v_iload_n hC dJ6_bitCount_0f7a4_10 rfl ?_
  refine v_ldcw hC dJ6_bitCount_0f7a4_11 ki_J6_266 ?_
  refine v_iandN hC dJ6_bitCount_0f7a4_14 ?_
  refine v_iload_n hC dJ6_bitCount_0f7a4_15 rfl ?_
  refine v_iconst (v := nI 2) hC dJ6_bitCount_0f7a4_16 (by decide) ?_
  refine v_iushrN hC dJ6_bitCount_0f7a4_17 hxm (by decide) ?_
  refine v_ldcw hC dJ6_bitCount_0f7a4_18 ki_J6_266 ?_
  refine v_iandN hC dJ6_bitCount_0f7a4_21 ?_
  refine v_iaddN hC dJ6_bitCount_0f7a4_22 ?_
  rw [e2, show (x &&& mkm 51 4) + (x / 4 &&& mkm 51 4) = bcn 4 m from by rw [← hx]; rfl]
  generalize hy : bcn 4 m = y at *
  refine v_istore_n hC dJ6_bitCount_0f7a4_23 (by decide) ?_
  refine v_iload_n hC dJ6_bitCount_0f7a4_24 rfl ?_
  refine v_iload_n hC dJ6_bitCount_0f7a4_25 rfl ?_
  refine v_iconst (v := nI 4) hC dJ6_bitCount_0f7a4_26 (by decide) ?_
  refine v_iushrN hC dJ6_bitCount_0f7a4_27 b1 (by decide) ?_
  refine v_iaddN hC dJ6_bitCount_0f7a4_28 ?_
  refine v_ldcw hC dJ6_bitCount_0f7a4_29 ki_J6_267 ?_
  refine v_iandN hC dJ6_bitCount_0f7a4_32 ?_
  rw [e4, q2]
  have hz1 := c8_pd4 m
  have hb := bc32 m hm _ _ rfl rfl
  generalize dg (fun b => cnt b.testBit 8) 4 m = z at *
  refine v_istore_n hC dJ6_bitCount_0f7a4_33 (by decide) ?_
  refine v_iload_n hC dJ6_bitCount_0f7a4_34 rfl ?_
  refine v_iload_n hC dJ6_bitCount_0f7a4_35 rfl ?_
  refine v_bipush (v := nI 8) hC dJ6_bitCount_0f7a4_36 (by decide) ?_
  refine v_iushrN hC dJ6_bitCount_0f7a4_38 (by omega) (by decide) ?_
  refine v_iaddN hC dJ6_bitCount_0f7a4_39 ?_
  refine v_istore_n hC dJ6_bitCount_0f7a4_40 (by decide) ?_
  refine v_iload_n hC dJ6_bitCount_0f7a4_41 rfl ?_
  refine v_iload_n hC dJ6_bitCount_0f7a4_42 rfl ?_
  refine v_bipush (v := nI 16) hC dJ6_bitCount_0f7a4_43 (by decide) ?_
  rw [e8]
  refine v_iushrN hC dJ6_bitCount_0f7a4_45 (by omega) (by decide) ?_
  refine v_iaddN hC dJ6_bitCount_0f7a4_46 ?_
  refine v_istore_n hC dJ6_bitCount_0f7a4_47 (by decide) ?_
  refine v_iload_n hC dJ6_bitCount_0f7a4_48 rfl ?_
  refine v_bipush (v := nI 63) hC dJ6_bitCount_0f7a4_49 (by decide) ?_
  refine v_iandN hC dJ6_bitCount_0f7a4_51 ?_
  rw [e16, show (63 : Nat) = 2 ^ 6 - 1 from rfl, Nat.and_two_pow_sub_one_eq_mod, show (2 : Nat) ^ 6 = 64 from rfl, hb]
  refine v_iret hC hM dJ6_bitCount_0f7a4_52 (by omega) (by omega) ?_
  exact ⟨rfl, rfl⟩

