theorem jb_bitv : ∀ v : Fin 64, ∀ k : Fin 6, jm_and (jm_shr (v.val : Int) (k.val : Int)) 1 = ((v.val / 2 ^ k.val % 2 : Nat) : Int) := by decide +kernel
theorem jb_notv : ∀ v : Fin 64, ∀ k : Fin 6, (jm_and (jm_shr (jm_xor (v.val : Int) (-1)) (k.val : Int)) 1 = 1 ↔ ¬ jm_and (jm_shr (v.val : Int) (k.val : Int)) 1 = 1) := by decide +kernel
theorem jb_shlv : ∀ k : Fin 7, jm_shl 1 (k.val : Int) = ((2 ^ k.val : Nat) : Int) := by decide +kernel
theorem jb_bit {v k : Int} (v0 : 0 ≤ v) (v1 : v < 64) (k0 : 0 ≤ k) (k1 : k < 6) : jm_and (jm_shr v k) 1 = 0 ∨ jm_and (jm_shr v k) 1 = 1 := by
  obtain ⟨n, rfl⟩ := Int.eq_ofNat_of_zero_le v0
  obtain ⟨m, rfl⟩ := Int.eq_ofNat_of_zero_le k0
  have h := jb_bitv ⟨n, by omega⟩ ⟨m, by omega⟩
  dsimp only at h
  rw [h]
  omega
theorem jb_not {v k : Int} (v0 : 0 ≤ v) (v1 : v < 64) (k0 : 0 ≤ k) (k1 : k < 6) : (jm_and (jm_shr (jm_xor v (-1)) k) 1 = 1 ↔ ¬ jm_and (jm_shr v k) 1 = 1) := by
  obtain ⟨n, rfl⟩ := Int.eq_ofNat_of_zero_le v0
  obtain ⟨m, rfl⟩ := Int.eq_ofNat_of_zero_le k0
  exact jb_notv ⟨n, by omega⟩ ⟨m, by omega⟩
theorem jb_shl {k : Int} (k0 : 0 ≤ k) (k1 : k ≤ 6) : jm_shl 1 k = ((2 ^ k.toNat : Nat) : Int) := by
  obtain ⟨n, rfl⟩ := Int.eq_ofNat_of_zero_le k0
  exact jb_shlv ⟨n, by omega⟩
theorem jb_shl6 {k : Int} (k0 : 0 ≤ k) (k1 : k ≤ 6) : 1 ≤ jm_shl 1 k ∧ jm_shl 1 k ≤ 64 := by
  rcases (show k = 0 ∨ k = 1 ∨ k = 2 ∨ k = 3 ∨ k = 4 ∨ k = 5 ∨ k = 6 by omega) with e | e | e | e | e | e | e <;> rw [e] <;> decide +kernel
theorem jb_shl4 {k : Int} (k0 : 0 ≤ k) (k1 : k ≤ 4) : 1 ≤ jm_shl 1 k ∧ jm_shl 1 k ≤ 16 := by
  rcases (show k = 0 ∨ k = 1 ∨ k = 2 ∨ k = 3 ∨ k = 4 by omega) with e | e | e | e | e <;> rw [e] <;> decide +kernel
/-- how many of four -/
def jb_n (v : Int) : Int := jm_and (jm_shr v 0) 1 + jm_and (jm_shr v 1) 1 + jm_and (jm_shr v 2) 1 + jm_and (jm_shr v 3) 1
set_option maxRecDepth 10000 in
theorem mo_bits {X : jm_X} {d : Nat} {Q : jv_P} {μ : jm_M} {v : Int} (hv : 0 ≤ v ∧ v < 64) (k : Q [.inl (jb_n v)] μ) : cV X (d + 1) 137 [.inl v] μ Q := by
  have b0 := jb_bit hv.1 hv.2 (k := 0) (by decide) (by decide)
  have b1 := jb_bit hv.1 hv.2 (k := 1) (by decide) (by decide)
  have b2 := jb_bit hv.1 hv.2 (k := 2) (by decide) (by decide)
  have b3 := jb_bit hv.1 hv.2 (k := 3) (by decide) (by decide)
  refine jv_enter (d := d + 0) jm_p_X10_bits [some (.inl v), none, none] rfl rfl rfl (Nat.le_of_ble_eq_true rfl) rfl rfl ?_
  refine jv_iconst rfl rfl ?_
  refine jv_istore_nK (L2 := [some (.inl v), some (.inl 0), none]) rfl rfl rfl ?_
  refine jv_iconst rfl rfl ?_
  refine jv_istore_nK (L2 := [some (.inl v), some (.inl 0), some (.inl 0)]) rfl rfl rfl ?_
  refine jv_iload_n rfl rfl rfl ?_
  refine jv_iconst rfl rfl ?_
  refine jv_icmp_geF rfl rfl (by decide) ?_
  refine jv_iload_n rfl rfl rfl ?_
  refine jv_iload_n rfl rfl rfl ?_
  refine jv_iload_n rfl rfl rfl ?_
  refine jv_ishr rfl rfl ?_
  refine jv_iconst rfl rfl ?_
  refine jv_iand rfl rfl ?_
  refine jv_iadd rfl rfl ⟨by omega, by omega⟩ ?_
  refine jv_istore_n (fun x => [some (.inl v), some (.inl x), some (.inl 0)]) rfl rfl (fun _ => rfl) (fun x1_14 ex1_14 => ?_)
  refine jv_iincK (L2 := [some (.inl v), some (.inl x1_14), some (.inl 1)]) rfl rfl rfl (by decide) rfl ?_
  refine jv_goto rfl rfl ?_
  refine jv_iload_n rfl rfl rfl ?_
  refine jv_iconst rfl rfl ?_
  refine jv_icmp_geF rfl rfl (by decide) ?_
  refine jv_iload_n rfl rfl rfl ?_
  refine jv_iload_n rfl rfl rfl ?_
  refine jv_iload_n rfl rfl rfl ?_
  refine jv_ishr rfl rfl ?_
  refine jv_iconst rfl rfl ?_
  refine jv_iand rfl rfl ?_
  refine jv_iadd rfl rfl ⟨by omega, by omega⟩ ?_
  refine jv_istore_n (fun x => [some (.inl v), some (.inl x), some (.inl 1)]) rfl rfl (fun _ => rfl) (fun x1_14_1 ex1_14_1 => ?_)
  refine jv_iincK (L2 := [some (.inl v), some (.inl x1_14_1), some (.inl 2)]) rfl rfl rfl (by decide) rfl ?_
  refine jv_goto rfl rfl ?_
  refine jv_iload_n rfl rfl rfl ?_
  refine jv_iconst rfl rfl ?_
  refine jv_icmp_geF rfl rfl (by decide) ?_
  refine jv_iload_n rfl rfl rfl ?_
  refine jv_iload_n rfl rfl rfl ?_
  refine jv_iload_n rfl rfl rfl ?_
  refine jv_ishr rfl rfl ?_
  refine jv_iconst rfl rfl ?_
  refine jv_iand rfl rfl ?_
  refine jv_iadd rfl rfl ⟨by omega, by omega⟩ ?_
  refine jv_istore_n (fun x => [some (.inl v), some (.inl x), some (.inl 2)]) rfl rfl (fun _ => rfl) (fun x1_14_2 ex1_14_2 => ?_)
  refine jv_iincK (L2 := [some (.inl v), some (.inl x1_14_2), some (.inl 3)]) rfl rfl rfl (by decide) rfl ?_
  refine jv_goto rfl rfl ?_
  refine jv_iload_n rfl rfl rfl ?_
  refine jv_iconst rfl rfl ?_
  refine jv_icmp_geF rfl rfl (by decide) ?_
  refine jv_iload_n rfl rfl rfl ?_
  refine jv_iload_n rfl rfl rfl ?_
  refine jv_iload_n rfl rfl rfl ?_
  refine jv_ishr rfl rfl ?_
  refine jv_iconst rfl rfl ?_
  refine jv_iand rfl rfl ?_
  refine jv_iadd rfl rfl ⟨by omega, by omega⟩ ?_
  refine jv_istore_n (fun x => [some (.inl v), some (.inl x), some (.inl 3)]) rfl rfl (fun _ => rfl) (fun x1_14_3 ex1_14_3 => ?_)
  refine jv_iincK (L2 := [some (.inl v), some (.inl x1_14_3), some (.inl 4)]) rfl rfl rfl (by decide) rfl ?_
  refine jv_goto rfl rfl ?_
  refine jv_iload_n rfl rfl rfl ?_
  refine jv_iconst rfl rfl ?_
  refine jv_icmp_geT rfl rfl (by decide) ?_
  refine jv_iload_n rfl rfl rfl ?_
  refine jv_ireturn rfl (Or.inl rfl) ?_
  have e : x1_14_3 = jb_n v := by unfold jb_n; omega
  rw [e]
  exact k
set_option maxRecDepth 10000 in
theorem cl_bitCount {X : jm_X} {d : Nat} {Q : jv_P} {μ : jm_M} {v : Int} (hv : 0 ≤ v ∧ v < 16) (k : Q [.inl (jb_n v)] μ) : cV X (d + 1) 223 [.inl v] μ Q := by
  rcases (show v = 0 ∨ v = 1 ∨ v = 2 ∨ v = 3 ∨ v = 4 ∨ v = 5 ∨ v = 6 ∨ v = 7 ∨ v = 8 ∨ v = 9 ∨ v = 10 ∨ v = 11 ∨ v = 12 ∨ v = 13 ∨ v = 14 ∨ v = 15 by omega) with rfl | rfl | rfl | rfl | rfl | rfl | rfl | rfl | rfl | rfl | rfl | rfl | rfl | rfl | rfl | rfl
  · refine jv_enter (d := d + 0) jm_p_J6_bitCount_0f7a4 [some (.inl 0)] rfl rfl rfl (Nat.le_of_ble_eq_true rfl) rfl rfl ?_
    refine jv_iload_n rfl rfl rfl ?_
    refine jv_iload_n rfl rfl rfl ?_
    refine jv_iconst rfl rfl ?_
    refine jv_iushr rfl rfl ?_
    rw [show jm_ushr 0 1 = 0 by decide +kernel]
    refine jv_ldc_w rfl rfl ?_
    refine jv_iand rfl rfl ?_
    rw [show jm_and 0 1431655765 = 0 by decide +kernel]
    refine jv_isub rfl rfl ⟨by decide, by decide⟩ ?_
    rw [show (0 - 0 : Int) = 0 by decide]
    refine jv_istore_nK (L2 := [some (.inl 0)]) rfl rfl rfl ?_
    refine jv_iload_n rfl rfl rfl ?_
    refine jv_ldc_w rfl rfl ?_
    refine jv_iand rfl rfl ?_
    rw [show jm_and 0 858993459 = 0 by decide +kernel]
    refine jv_iload_n rfl rfl rfl ?_
    refine jv_iconst rfl rfl ?_
    refine jv_iushr rfl rfl ?_
    rw [show jm_ushr 0 2 = 0 by decide +kernel]
    refine jv_ldc_w rfl rfl ?_
    refine jv_iand rfl rfl ?_
    rw [show jm_and 0 858993459 = 0 by decide +kernel]
    refine jv_iadd rfl rfl ⟨by decide, by decide⟩ ?_
    rw [show (0 + 0 : Int) = 0 by decide]
    refine jv_istore_nK (L2 := [some (.inl 0)]) rfl rfl rfl ?_
    refine jv_iload_n rfl rfl rfl ?_
    refine jv_iload_n rfl rfl rfl ?_
    refine jv_iconst rfl rfl ?_
    refine jv_iushr rfl rfl ?_
    rw [show jm_ushr 0 4 = 0 by decide +kernel]
    refine jv_iadd rfl rfl ⟨by decide, by decide⟩ ?_
    rw [show (0 + 0 : Int) = 0 by decide]
    refine jv_ldc_w rfl rfl ?_
    refine jv_iand rfl rfl ?_
    rw [show jm_and 0 252645135 = 0 by decide +kernel]
    refine jv_istore_nK (L2 := [some (.inl 0)]) rfl rfl rfl ?_
    refine jv_iload_n rfl rfl rfl ?_
    refine jv_iload_n rfl rfl rfl ?_
    refine jv_bipush rfl rfl ?_
    refine jv_iushr rfl rfl ?_
    rw [show jm_ushr 0 8 = 0 by decide +kernel]
    refine jv_iadd rfl rfl ⟨by decide, by decide⟩ ?_
    rw [show (0 + 0 : Int) = 0 by decide]
    refine jv_istore_nK (L2 := [some (.inl 0)]) rfl rfl rfl ?_
    refine jv_iload_n rfl rfl rfl ?_
    refine jv_iload_n rfl rfl rfl ?_
    refine jv_bipush rfl rfl ?_
    refine jv_iushr rfl rfl ?_
    rw [show jm_ushr 0 16 = 0 by decide +kernel]
    refine jv_iadd rfl rfl ⟨by decide, by decide⟩ ?_
    rw [show (0 + 0 : Int) = 0 by decide]
    refine jv_istore_nK (L2 := [some (.inl 0)]) rfl rfl rfl ?_
    refine jv_iload_n rfl rfl rfl ?_
    refine jv_bipush rfl rfl ?_
    refine jv_iand rfl rfl ?_
    rw [show jm_and 0 63 = 0 by decide +kernel]
    refine jv_ireturn rfl (Or.inl rfl) ?_
    rw [show jb_n 0 = 0 by decide +kernel] at k
    exact k
  · refine jv_enter (d := d + 0) jm_p_J6_bitCount_0f7a4 [some (.inl 1)] rfl rfl rfl (Nat.le_of_ble_eq_true rfl) rfl rfl ?_
    refine jv_iload_n rfl rfl rfl ?_
    refine jv_iload_n rfl rfl rfl ?_
    refine jv_iconst rfl rfl ?_
    refine jv_iushr rfl rfl ?_
    rw [show jm_ushr 1 1 = 0 by decide +kernel]
    refine jv_ldc_w rfl rfl ?_
    refine jv_iand rfl rfl ?_
    rw [show jm_and 0 1431655765 = 0 by decide +kernel]
    refine jv_isub rfl rfl ⟨by decide, by decide⟩ ?_
    rw [show (1 - 0 : Int) = 1 by decide]
    refine jv_istore_nK (L2 := [some (.inl 1)]) rfl rfl rfl ?_
    refine jv_iload_n rfl rfl rfl ?_
    refine jv_ldc_w rfl rfl ?_
    refine jv_iand rfl rfl ?_
    rw [show jm_and 1 858993459 = 1 by decide +kernel]
    refine jv_iload_n rfl rfl rfl ?_
    refine jv_iconst rfl rfl ?_
    refine jv_iushr rfl rfl ?_
    rw [show jm_ushr 1 2 = 0 by decide +kernel]
    refine jv_ldc_w rfl rfl ?_
    refine jv_iand rfl rfl ?_
    rw [show jm_and 0 858993459 = 0 by decide +kernel]
    refine jv_iadd rfl rfl ⟨by decide, by decide⟩ ?_
    rw [show (1 + 0 : Int) = 1 by decide]
    refine jv_istore_nK (L2 := [some (.inl 1)]) rfl rfl rfl ?_
    refine jv_iload_n rfl rfl rfl ?_
    refine jv_iload_n rfl rfl rfl ?_
    refine jv_iconst rfl rfl ?_
    refine jv_iushr rfl rfl ?_
    rw [show jm_ushr 1 4 = 0 by decide +kernel]
    refine jv_iadd rfl rfl ⟨by decide, by decide⟩ ?_
    rw [show (1 + 0 : Int) = 1 by decide]
    refine jv_ldc_w rfl rfl ?_
    refine jv_iand rfl rfl ?_
    rw [show jm_and 1 252645135 = 1 by decide +kernel]
    refine jv_istore_nK (L2 := [some (.inl 1)]) rfl rfl rfl ?_
    refine jv_iload_n rfl rfl rfl ?_
    refine jv_iload_n rfl rfl rfl ?_
    refine jv_bipush rfl rfl ?_
    refine jv_iushr rfl rfl ?_
    rw [show jm_ushr 1 8 = 0 by decide +kernel]
    refine jv_iadd rfl rfl ⟨by decide, by decide⟩ ?_
    rw [show (1 + 0 : Int) = 1 by decide]
    refine jv_istore_nK (L2 := [some (.inl 1)]) rfl rfl rfl ?_
    refine jv_iload_n rfl rfl rfl ?_
    refine jv_iload_n rfl rfl rfl ?_
    refine jv_bipush rfl rfl ?_
    refine jv_iushr rfl rfl ?_
    rw [show jm_ushr 1 16 = 0 by decide +kernel]
    refine jv_iadd rfl rfl ⟨by decide, by decide⟩ ?_
    rw [show (1 + 0 : Int) = 1 by decide]
    refine jv_istore_nK (L2 := [some (.inl 1)]) rfl rfl rfl ?_
    refine jv_iload_n rfl rfl rfl ?_
    refine jv_bipush rfl rfl ?_
    refine jv_iand rfl rfl ?_
    rw [show jm_and 1 63 = 1 by decide +kernel]
    refine jv_ireturn rfl (Or.inl rfl) ?_
    rw [show jb_n 1 = 1 by decide +kernel] at k
    exact k
  · refine jv_enter (d := d + 0) jm_p_J6_bitCount_0f7a4 [some (.inl 2)] rfl rfl rfl (Nat.le_of_ble_eq_true rfl) rfl rfl ?_
    refine jv_iload_n rfl rfl rfl ?_
    refine jv_iload_n rfl rfl rfl ?_
    refine jv_iconst rfl rfl ?_
    refine jv_iushr rfl rfl ?_
    rw [show jm_ushr 2 1 = 1 by decide +kernel]
    refine jv_ldc_w rfl rfl ?_
    refine jv_iand rfl rfl ?_
    rw [show jm_and 1 1431655765 = 1 by decide +kernel]
    refine jv_isub rfl rfl ⟨by decide, by decide⟩ ?_
    rw [show (2 - 1 : Int) = 1 by decide]
    refine jv_istore_nK (L2 := [some (.inl 1)]) rfl rfl rfl ?_
    refine jv_iload_n rfl rfl rfl ?_
    refine jv_ldc_w rfl rfl ?_
    refine jv_iand rfl rfl ?_
    rw [show jm_and 1 858993459 = 1 by decide +kernel]
    refine jv_iload_n rfl rfl rfl ?_
    refine jv_iconst rfl rfl ?_
    refine jv_iushr rfl rfl ?_
    rw [show jm_ushr 1 2 = 0 by decide +kernel]
    refine jv_ldc_w rfl rfl ?_
    refine jv_iand rfl rfl ?_
    rw [show jm_and 0 858993459 = 0 by decide +kernel]
    refine jv_iadd rfl rfl ⟨by decide, by decide⟩ ?_
    rw [show (1 + 0 : Int) = 1 by decide]
    refine jv_istore_nK (L2 := [some (.inl 1)]) rfl rfl rfl ?_
    refine jv_iload_n rfl rfl rfl ?_
    refine jv_iload_n rfl rfl rfl ?_
    refine jv_iconst rfl rfl ?_
    refine jv_iushr rfl rfl ?_
    rw [show jm_ushr 1 4 = 0 by decide +kernel]
    refine jv_iadd rfl rfl ⟨by decide, by decide⟩ ?_
    rw [show (1 + 0 : Int) = 1 by decide]
    refine jv_ldc_w rfl rfl ?_
    refine jv_iand rfl rfl ?_
    rw [show jm_and 1 252645135 = 1 by decide +kernel]
    refine jv_istore_nK (L2 := [some (.inl 1)]) rfl rfl rfl ?_
    refine jv_iload_n rfl rfl rfl ?_
    refine jv_iload_n rfl rfl rfl ?_
    refine jv_bipush rfl rfl ?_
    refine jv_iushr rfl rfl ?_
    rw [show jm_ushr 1 8 = 0 by decide +kernel]
    refine jv_iadd rfl rfl ⟨by decide, by decide⟩ ?_
    rw [show (1 + 0 : Int) = 1 by decide]
    refine jv_istore_nK (L2 := [some (.inl 1)]) rfl rfl rfl ?_
    refine jv_iload_n rfl rfl rfl ?_
    refine jv_iload_n rfl rfl rfl ?_
    refine jv_bipush rfl rfl ?_
    refine jv_iushr rfl rfl ?_
    rw [show jm_ushr 1 16 = 0 by decide +kernel]
    refine jv_iadd rfl rfl ⟨by decide, by decide⟩ ?_
    rw [show (1 + 0 : Int) = 1 by decide]
    refine jv_istore_nK (L2 := [some (.inl 1)]) rfl rfl rfl ?_
    refine jv_iload_n rfl rfl rfl ?_
    refine jv_bipush rfl rfl ?_
    refine jv_iand rfl rfl ?_
    rw [show jm_and 1 63 = 1 by decide +kernel]
    refine jv_ireturn rfl (Or.inl rfl) ?_
    rw [show jb_n 2 = 1 by decide +kernel] at k
    exact k
  · refine jv_enter (d := d + 0) jm_p_J6_bitCount_0f7a4 [some (.inl 3)] rfl rfl rfl (Nat.le_of_ble_eq_true rfl) rfl rfl ?_
    refine jv_iload_n rfl rfl rfl ?_
    refine jv_iload_n rfl rfl rfl ?_
    refine jv_iconst rfl rfl ?_
    refine jv_iushr rfl rfl ?_
    rw [show jm_ushr 3 1 = 1 by decide +kernel]
    refine jv_ldc_w rfl rfl ?_
    refine jv_iand rfl rfl ?_
    rw [show jm_and 1 1431655765 = 1 by decide +kernel]
    refine jv_isub rfl rfl ⟨by decide, by decide⟩ ?_
    rw [show (3 - 1 : Int) = 2 by decide]
    refine jv_istore_nK (L2 := [some (.inl 2)]) rfl rfl rfl ?_
    refine jv_iload_n rfl rfl rfl ?_
    refine jv_ldc_w rfl rfl ?_
    refine jv_iand rfl rfl ?_
    rw [show jm_and 2 858993459 = 2 by decide +kernel]
    refine jv_iload_n rfl rfl rfl ?_
    refine jv_iconst rfl rfl ?_
    refine jv_iushr rfl rfl ?_
    rw [show jm_ushr 2 2 = 0 by decide +kernel]
    refine jv_ldc_w rfl rfl ?_
    refine jv_iand rfl rfl ?_
    rw [show jm_and 0 858993459 = 0 by decide +kernel]
    refine jv_iadd rfl rfl ⟨by decide, by decide⟩ ?_
    rw [show (2 + 0 : Int) = 2 by decide]
    refine jv_istore_nK (L2 := [some (.inl 2)]) rfl rfl rfl ?_
    refine jv_iload_n rfl rfl rfl ?_
    refine jv_iload_n rfl rfl rfl ?_
    refine jv_iconst rfl rfl ?_
    refine jv_iushr rfl rfl ?_
    rw [show jm_ushr 2 4 = 0 by decide +kernel]
    refine jv_iadd rfl rfl ⟨by decide, by decide⟩ ?_
    rw [show (2 + 0 : Int) = 2 by decide]
    refine jv_ldc_w rfl rfl ?_
    refine jv_iand rfl rfl ?_
    rw [show jm_and 2 252645135 = 2 by decide +kernel]
    refine jv_istore_nK (L2 := [some (.inl 2)]) rfl rfl rfl ?_
    refine jv_iload_n rfl rfl rfl ?_
    refine jv_iload_n rfl rfl rfl ?_
    refine jv_bipush rfl rfl ?_
    refine jv_iushr rfl rfl ?_
    rw [show jm_ushr 2 8 = 0 by decide +kernel]
    refine jv_iadd rfl rfl ⟨by decide, by decide⟩ ?_
    rw [show (2 + 0 : Int) = 2 by decide]
    refine jv_istore_nK (L2 := [some (.inl 2)]) rfl rfl rfl ?_
    refine jv_iload_n rfl rfl rfl ?_
    refine jv_iload_n rfl rfl rfl ?_
    refine jv_bipush rfl rfl ?_
    refine jv_iushr rfl rfl ?_
    rw [show jm_ushr 2 16 = 0 by decide +kernel]
    refine jv_iadd rfl rfl ⟨by decide, by decide⟩ ?_
    rw [show (2 + 0 : Int) = 2 by decide]
    refine jv_istore_nK (L2 := [some (.inl 2)]) rfl rfl rfl ?_
    refine jv_iload_n rfl rfl rfl ?_
    refine jv_bipush rfl rfl ?_
    refine jv_iand rfl rfl ?_
    rw [show jm_and 2 63 = 2 by decide +kernel]
    refine jv_ireturn rfl (Or.inl rfl) ?_
    rw [show jb_n 3 = 2 by decide +kernel] at k
    exact k
  · refine jv_enter (d := d + 0) jm_p_J6_bitCount_0f7a4 [some (.inl 4)] rfl rfl rfl (Nat.le_of_ble_eq_true rfl) rfl rfl ?_
    refine jv_iload_n rfl rfl rfl ?_
    refine jv_iload_n rfl rfl rfl ?_
    refine jv_iconst rfl rfl ?_
    refine jv_iushr rfl rfl ?_
    rw [show jm_ushr 4 1 = 2 by decide +kernel]
    refine jv_ldc_w rfl rfl ?_
    refine jv_iand rfl rfl ?_
    rw [show jm_and 2 1431655765 = 0 by decide +kernel]
    refine jv_isub rfl rfl ⟨by decide, by decide⟩ ?_
    rw [show (4 - 0 : Int) = 4 by decide]
    refine jv_istore_nK (L2 := [some (.inl 4)]) rfl rfl rfl ?_
    refine jv_iload_n rfl rfl rfl ?_
    refine jv_ldc_w rfl rfl ?_
    refine jv_iand rfl rfl ?_
    rw [show jm_and 4 858993459 = 0 by decide +kernel]
    refine jv_iload_n rfl rfl rfl ?_
    refine jv_iconst rfl rfl ?_
    refine jv_iushr rfl rfl ?_
    rw [show jm_ushr 4 2 = 1 by decide +kernel]
    refine jv_ldc_w rfl rfl ?_
    refine jv_iand rfl rfl ?_
    rw [show jm_and 1 858993459 = 1 by decide +kernel]
    refine jv_iadd rfl rfl ⟨by decide, by decide⟩ ?_
    rw [show (0 + 1 : Int) = 1 by decide]
    refine jv_istore_nK (L2 := [some (.inl 1)]) rfl rfl rfl ?_
    refine jv_iload_n rfl rfl rfl ?_
    refine jv_iload_n rfl rfl rfl ?_
    refine jv_iconst rfl rfl ?_
    refine jv_iushr rfl rfl ?_
    rw [show jm_ushr 1 4 = 0 by decide +kernel]
    refine jv_iadd rfl rfl ⟨by decide, by decide⟩ ?_
    rw [show (1 + 0 : Int) = 1 by decide]
    refine jv_ldc_w rfl rfl ?_
    refine jv_iand rfl rfl ?_
    rw [show jm_and 1 252645135 = 1 by decide +kernel]
    refine jv_istore_nK (L2 := [some (.inl 1)]) rfl rfl rfl ?_
    refine jv_iload_n rfl rfl rfl ?_
    refine jv_iload_n rfl rfl rfl ?_
    refine jv_bipush rfl rfl ?_
    refine jv_iushr rfl rfl ?_
    rw [show jm_ushr 1 8 = 0 by decide +kernel]
    refine jv_iadd rfl rfl ⟨by decide, by decide⟩ ?_
    rw [show (1 + 0 : Int) = 1 by decide]
    refine jv_istore_nK (L2 := [some (.inl 1)]) rfl rfl rfl ?_
    refine jv_iload_n rfl rfl rfl ?_
    refine jv_iload_n rfl rfl rfl ?_
    refine jv_bipush rfl rfl ?_
    refine jv_iushr rfl rfl ?_
    rw [show jm_ushr 1 16 = 0 by decide +kernel]
    refine jv_iadd rfl rfl ⟨by decide, by decide⟩ ?_
    rw [show (1 + 0 : Int) = 1 by decide]
    refine jv_istore_nK (L2 := [some (.inl 1)]) rfl rfl rfl ?_
    refine jv_iload_n rfl rfl rfl ?_
    refine jv_bipush rfl rfl ?_
    refine jv_iand rfl rfl ?_
    rw [show jm_and 1 63 = 1 by decide +kernel]
    refine jv_ireturn rfl (Or.inl rfl) ?_
    rw [show jb_n 4 = 1 by decide +kernel] at k
    exact k
  · refine jv_enter (d := d + 0) jm_p_J6_bitCount_0f7a4 [some (.inl 5)] rfl rfl rfl (Nat.le_of_ble_eq_true rfl) rfl rfl ?_
    refine jv_iload_n rfl rfl rfl ?_
    refine jv_iload_n rfl rfl rfl ?_
    refine jv_iconst rfl rfl ?_
    refine jv_iushr rfl rfl ?_
    rw [show jm_ushr 5 1 = 2 by decide +kernel]
    refine jv_ldc_w rfl rfl ?_
    refine jv_iand rfl rfl ?_
    rw [show jm_and 2 1431655765 = 0 by decide +kernel]
    refine jv_isub rfl rfl ⟨by decide, by decide⟩ ?_
    rw [show (5 - 0 : Int) = 5 by decide]
    refine jv_istore_nK (L2 := [some (.inl 5)]) rfl rfl rfl ?_
    refine jv_iload_n rfl rfl rfl ?_
    refine jv_ldc_w rfl rfl ?_
    refine jv_iand rfl rfl ?_
    rw [show jm_and 5 858993459 = 1 by decide +kernel]
    refine jv_iload_n rfl rfl rfl ?_
    refine jv_iconst rfl rfl ?_
    refine jv_iushr rfl rfl ?_
    rw [show jm_ushr 5 2 = 1 by decide +kernel]
    refine jv_ldc_w rfl rfl ?_
    refine jv_iand rfl rfl ?_
    rw [show jm_and 1 858993459 = 1 by decide +kernel]
    refine jv_iadd rfl rfl ⟨by decide, by decide⟩ ?_
    rw [show (1 + 1 : Int) = 2 by decide]
    refine jv_istore_nK (L2 := [some (.inl 2)]) rfl rfl rfl ?_
    refine jv_iload_n rfl rfl rfl ?_
    refine jv_iload_n rfl rfl rfl ?_
    refine jv_iconst rfl rfl ?_
    refine jv_iushr rfl rfl ?_
    rw [show jm_ushr 2 4 = 0 by decide +kernel]
    refine jv_iadd rfl rfl ⟨by decide, by decide⟩ ?_
    rw [show (2 + 0 : Int) = 2 by decide]
    refine jv_ldc_w rfl rfl ?_
    refine jv_iand rfl rfl ?_
    rw [show jm_and 2 252645135 = 2 by decide +kernel]
    refine jv_istore_nK (L2 := [some (.inl 2)]) rfl rfl rfl ?_
    refine jv_iload_n rfl rfl rfl ?_
    refine jv_iload_n rfl rfl rfl ?_
    refine jv_bipush rfl rfl ?_
    refine jv_iushr rfl rfl ?_
    rw [show jm_ushr 2 8 = 0 by decide +kernel]
    refine jv_iadd rfl rfl ⟨by decide, by decide⟩ ?_
    rw [show (2 + 0 : Int) = 2 by decide]
    refine jv_istore_nK (L2 := [some (.inl 2)]) rfl rfl rfl ?_
    refine jv_iload_n rfl rfl rfl ?_
    refine jv_iload_n rfl rfl rfl ?_
    refine jv_bipush rfl rfl ?_
    refine jv_iushr rfl rfl ?_
    rw [show jm_ushr 2 16 = 0 by decide +kernel]
    refine jv_iadd rfl rfl ⟨by decide, by decide⟩ ?_
    rw [show (2 + 0 : Int) = 2 by decide]
    refine jv_istore_nK (L2 := [some (.inl 2)]) rfl rfl rfl ?_
    refine jv_iload_n rfl rfl rfl ?_
    refine jv_bipush rfl rfl ?_
    refine jv_iand rfl rfl ?_
    rw [show jm_and 2 63 = 2 by decide +kernel]
    refine jv_ireturn rfl (Or.inl rfl) ?_
    rw [show jb_n 5 = 2 by decide +kernel] at k
    exact k
  · refine jv_enter (d := d + 0) jm_p_J6_bitCount_0f7a4 [some (.inl 6)] rfl rfl rfl (Nat.le_of_ble_eq_true rfl) rfl rfl ?_
    refine jv_iload_n rfl rfl rfl ?_
    refine jv_iload_n rfl rfl rfl ?_
    refine jv_iconst rfl rfl ?_
    refine jv_iushr rfl rfl ?_
    rw [show jm_ushr 6 1 = 3 by decide +kernel]
    refine jv_ldc_w rfl rfl ?_
    refine jv_iand rfl rfl ?_
    rw [show jm_and 3 1431655765 = 1 by decide +kernel]
    refine jv_isub rfl rfl ⟨by decide, by decide⟩ ?_
    rw [show (6 - 1 : Int) = 5 by decide]
    refine jv_istore_nK (L2 := [some (.inl 5)]) rfl rfl rfl ?_
    refine jv_iload_n rfl rfl rfl ?_
    refine jv_ldc_w rfl rfl ?_
    refine jv_iand rfl rfl ?_
    rw [show jm_and 5 858993459 = 1 by decide +kernel]
    refine jv_iload_n rfl rfl rfl ?_
    refine jv_iconst rfl rfl ?_
    refine jv_iushr rfl rfl ?_
    rw [show jm_ushr 5 2 = 1 by decide +kernel]
    refine jv_ldc_w rfl rfl ?_
    refine jv_iand rfl rfl ?_
    rw [show jm_and 1 858993459 = 1 by decide +kernel]
    refine jv_iadd rfl rfl ⟨by decide, by decide⟩ ?_
    rw [show (1 + 1 : Int) = 2 by decide]
    refine jv_istore_nK (L2 := [some (.inl 2)]) rfl rfl rfl ?_
    refine jv_iload_n rfl rfl rfl ?_
    refine jv_iload_n rfl rfl rfl ?_
    refine jv_iconst rfl rfl ?_
    refine jv_iushr rfl rfl ?_
    rw [show jm_ushr 2 4 = 0 by decide +kernel]
    refine jv_iadd rfl rfl ⟨by decide, by decide⟩ ?_
    rw [show (2 + 0 : Int) = 2 by decide]
    refine jv_ldc_w rfl rfl ?_
    refine jv_iand rfl rfl ?_
    rw [show jm_and 2 252645135 = 2 by decide +kernel]
    refine jv_istore_nK (L2 := [some (.inl 2)]) rfl rfl rfl ?_
    refine jv_iload_n rfl rfl rfl ?_
    refine jv_iload_n rfl rfl rfl ?_
    refine jv_bipush rfl rfl ?_
    refine jv_iushr rfl rfl ?_
    rw [show jm_ushr 2 8 = 0 by decide +kernel]
    refine jv_iadd rfl rfl ⟨by decide, by decide⟩ ?_
    rw [show (2 + 0 : Int) = 2 by decide]
    refine jv_istore_nK (L2 := [some (.inl 2)]) rfl rfl rfl ?_
    refine jv_iload_n rfl rfl rfl ?_
    refine jv_iload_n rfl rfl rfl ?_
    refine jv_bipush rfl rfl ?_
    refine jv_iushr rfl rfl ?_
    rw [show jm_ushr 2 16 = 0 by decide +kernel]
    refine jv_iadd rfl rfl ⟨by decide, by decide⟩ ?_
    rw [show (2 + 0 : Int) = 2 by decide]
    refine jv_istore_nK (L2 := [some (.inl 2)]) rfl rfl rfl ?_
    refine jv_iload_n rfl rfl rfl ?_
    refine jv_bipush rfl rfl ?_
    refine jv_iand rfl rfl ?_
    rw [show jm_and 2 63 = 2 by decide +kernel]
    refine jv_ireturn rfl (Or.inl rfl) ?_
    rw [show jb_n 6 = 2 by decide +kernel] at k
    exact k
  · refine jv_enter (d := d + 0) jm_p_J6_bitCount_0f7a4 [some (.inl 7)] rfl rfl rfl (Nat.le_of_ble_eq_true rfl) rfl rfl ?_
    refine jv_iload_n rfl rfl rfl ?_
    refine jv_iload_n rfl rfl rfl ?_
    refine jv_iconst rfl rfl ?_
    refine jv_iushr rfl rfl ?_
    rw [show jm_ushr 7 1 = 3 by decide +kernel]
    refine jv_ldc_w rfl rfl ?_
    refine jv_iand rfl rfl ?_
    rw [show jm_and 3 1431655765 = 1 by decide +kernel]
    refine jv_isub rfl rfl ⟨by decide, by decide⟩ ?_
    rw [show (7 - 1 : Int) = 6 by decide]
    refine jv_istore_nK (L2 := [some (.inl 6)]) rfl rfl rfl ?_
    refine jv_iload_n rfl rfl rfl ?_
    refine jv_ldc_w rfl rfl ?_
    refine jv_iand rfl rfl ?_
    rw [show jm_and 6 858993459 = 2 by decide +kernel]
    refine jv_iload_n rfl rfl rfl ?_
    refine jv_iconst rfl rfl ?_
    refine jv_iushr rfl rfl ?_
    rw [show jm_ushr 6 2 = 1 by decide +kernel]
    refine jv_ldc_w rfl rfl ?_
    refine jv_iand rfl rfl ?_
    rw [show jm_and 1 858993459 = 1 by decide +kernel]
    refine jv_iadd rfl rfl ⟨by decide, by decide⟩ ?_
    rw [show (2 + 1 : Int) = 3 by decide]
    refine jv_istore_nK (L2 := [some (.inl 3)]) rfl rfl rfl ?_
    refine jv_iload_n rfl rfl rfl ?_
    refine jv_iload_n rfl rfl rfl ?_
    refine jv_iconst rfl rfl ?_
    refine jv_iushr rfl rfl ?_
    rw [show jm_ushr 3 4 = 0 by decide +kernel]
    refine jv_iadd rfl rfl ⟨by decide, by decide⟩ ?_
    rw [show (3 + 0 : Int) = 3 by decide]
    refine jv_ldc_w rfl rfl ?_
    refine jv_iand rfl rfl ?_
    rw [show jm_and 3 252645135 = 3 by decide +kernel]
    refine jv_istore_nK (L2 := [some (.inl 3)]) rfl rfl rfl ?_
    refine jv_iload_n rfl rfl rfl ?_
    refine jv_iload_n rfl rfl rfl ?_
    refine jv_bipush rfl rfl ?_
    refine jv_iushr rfl rfl ?_
    rw [show jm_ushr 3 8 = 0 by decide +kernel]
    refine jv_iadd rfl rfl ⟨by decide, by decide⟩ ?_
    rw [show (3 + 0 : Int) = 3 by decide]
    refine jv_istore_nK (L2 := [some (.inl 3)]) rfl rfl rfl ?_
    refine jv_iload_n rfl rfl rfl ?_
    refine jv_iload_n rfl rfl rfl ?_
    refine jv_bipush rfl rfl ?_
    refine jv_iushr rfl rfl ?_
    rw [show jm_ushr 3 16 = 0 by decide +kernel]
    refine jv_iadd rfl rfl ⟨by decide, by decide⟩ ?_
    rw [show (3 + 0 : Int) = 3 by decide]
    refine jv_istore_nK (L2 := [some (.inl 3)]) rfl rfl rfl ?_
    refine jv_iload_n rfl rfl rfl ?_
    refine jv_bipush rfl rfl ?_
    refine jv_iand rfl rfl ?_
    rw [show jm_and 3 63 = 3 by decide +kernel]
    refine jv_ireturn rfl (Or.inl rfl) ?_
    rw [show jb_n 7 = 3 by decide +kernel] at k
    exact k
  · refine jv_enter (d := d + 0) jm_p_J6_bitCount_0f7a4 [some (.inl 8)] rfl rfl rfl (Nat.le_of_ble_eq_true rfl) rfl rfl ?_
    refine jv_iload_n rfl rfl rfl ?_
    refine jv_iload_n rfl rfl rfl ?_
    refine jv_iconst rfl rfl ?_
    refine jv_iushr rfl rfl ?_
    rw [show jm_ushr 8 1 = 4 by decide +kernel]
    refine jv_ldc_w rfl rfl ?_
    refine jv_iand rfl rfl ?_
    rw [show jm_and 4 1431655765 = 4 by decide +kernel]
    refine jv_isub rfl rfl ⟨by decide, by decide⟩ ?_
    rw [show (8 - 4 : Int) = 4 by decide]
    refine jv_istore_nK (L2 := [some (.inl 4)]) rfl rfl rfl ?_
    refine jv_iload_n rfl rfl rfl ?_
    refine jv_ldc_w rfl rfl ?_
    refine jv_iand rfl rfl ?_
    rw [show jm_and 4 858993459 = 0 by decide +kernel]
    refine jv_iload_n rfl rfl rfl ?_
    refine jv_iconst rfl rfl ?_
    refine jv_iushr rfl rfl ?_
    rw [show jm_ushr 4 2 = 1 by decide +kernel]
    refine jv_ldc_w rfl rfl ?_
    refine jv_iand rfl rfl ?_
    rw [show jm_and 1 858993459 = 1 by decide +kernel]
    refine jv_iadd rfl rfl ⟨by decide, by decide⟩ ?_
    rw [show (0 + 1 : Int) = 1 by decide]
    refine jv_istore_nK (L2 := [some (.inl 1)]) rfl rfl rfl ?_
    refine jv_iload_n rfl rfl rfl ?_
    refine jv_iload_n rfl rfl rfl ?_
    refine jv_iconst rfl rfl ?_
    refine jv_iushr rfl rfl ?_
    rw [show jm_ushr 1 4 = 0 by decide +kernel]
    refine jv_iadd rfl rfl ⟨by decide, by decide⟩ ?_
    rw [show (1 + 0 : Int) = 1 by decide]
    refine jv_ldc_w rfl rfl ?_
    refine jv_iand rfl rfl ?_
    rw [show jm_and 1 252645135 = 1 by decide +kernel]
    refine jv_istore_nK (L2 := [some (.inl 1)]) rfl rfl rfl ?_
    refine jv_iload_n rfl rfl rfl ?_
    refine jv_iload_n rfl rfl rfl ?_
    refine jv_bipush rfl rfl ?_
    refine jv_iushr rfl rfl ?_
    rw [show jm_ushr 1 8 = 0 by decide +kernel]
    refine jv_iadd rfl rfl ⟨by decide, by decide⟩ ?_
    rw [show (1 + 0 : Int) = 1 by decide]
    refine jv_istore_nK (L2 := [some (.inl 1)]) rfl rfl rfl ?_
    refine jv_iload_n rfl rfl rfl ?_
    refine jv_iload_n rfl rfl rfl ?_
    refine jv_bipush rfl rfl ?_
    refine jv_iushr rfl rfl ?_
    rw [show jm_ushr 1 16 = 0 by decide +kernel]
    refine jv_iadd rfl rfl ⟨by decide, by decide⟩ ?_
    rw [show (1 + 0 : Int) = 1 by decide]
    refine jv_istore_nK (L2 := [some (.inl 1)]) rfl rfl rfl ?_
    refine jv_iload_n rfl rfl rfl ?_
    refine jv_bipush rfl rfl ?_
    refine jv_iand rfl rfl ?_
    rw [show jm_and 1 63 = 1 by decide +kernel]
    refine jv_ireturn rfl (Or.inl rfl) ?_
    rw [show jb_n 8 = 1 by decide +kernel] at k
    exact k
  · refine jv_enter (d := d + 0) jm_p_J6_bitCount_0f7a4 [some (.inl 9)] rfl rfl rfl (Nat.le_of_ble_eq_true rfl) rfl rfl ?_
    refine jv_iload_n rfl rfl rfl ?_
    refine jv_iload_n rfl rfl rfl ?_
    refine jv_iconst rfl rfl ?_
    refine jv_iushr rfl rfl ?_
    rw [show jm_ushr 9 1 = 4 by decide +kernel]
    refine jv_ldc_w rfl rfl ?_
    refine jv_iand rfl rfl ?_
    rw [show jm_and 4 1431655765 = 4 by decide +kernel]
    refine jv_isub rfl rfl ⟨by decide, by decide⟩ ?_
    rw [show (9 - 4 : Int) = 5 by decide]
    refine jv_istore_nK (L2 := [some (.inl 5)]) rfl rfl rfl ?_
    refine jv_iload_n rfl rfl rfl ?_
    refine jv_ldc_w rfl rfl ?_
    refine jv_iand rfl rfl ?_
    rw [show jm_and 5 858993459 = 1 by decide +kernel]
    refine jv_iload_n rfl rfl rfl ?_
    refine jv_iconst rfl rfl ?_
    refine jv_iushr rfl rfl ?_
    rw [show jm_ushr 5 2 = 1 by decide +kernel]
    refine jv_ldc_w rfl rfl ?_
    refine jv_iand rfl rfl ?_
    rw [show jm_and 1 858993459 = 1 by decide +kernel]
    refine jv_iadd rfl rfl ⟨by decide, by decide⟩ ?_
    rw [show (1 + 1 : Int) = 2 by decide]
    refine jv_istore_nK (L2 := [some (.inl 2)]) rfl rfl rfl ?_
    refine jv_iload_n rfl rfl rfl ?_
    refine jv_iload_n rfl rfl rfl ?_
    refine jv_iconst rfl rfl ?_
    refine jv_iushr rfl rfl ?_
    rw [show jm_ushr 2 4 = 0 by decide +kernel]
    refine jv_iadd rfl rfl ⟨by decide, by decide⟩ ?_
    rw [show (2 + 0 : Int) = 2 by decide]
    refine jv_ldc_w rfl rfl ?_
    refine jv_iand rfl rfl ?_
    rw [show jm_and 2 252645135 = 2 by decide +kernel]
    refine jv_istore_nK (L2 := [some (.inl 2)]) rfl rfl rfl ?_
    refine jv_iload_n rfl rfl rfl ?_
    refine jv_iload_n rfl rfl rfl ?_
    refine jv_bipush rfl rfl ?_
    refine jv_iushr rfl rfl ?_
    rw [show jm_ushr 2 8 = 0 by decide +kernel]
    refine jv_iadd rfl rfl ⟨by decide, by decide⟩ ?_
    rw [show (2 + 0 : Int) = 2 by decide]
    refine jv_istore_nK (L2 := [some (.inl 2)]) rfl rfl rfl ?_
    refine jv_iload_n rfl rfl rfl ?_
    refine jv_iload_n rfl rfl rfl ?_
    refine jv_bipush rfl rfl ?_
    refine jv_iushr rfl rfl ?_
    rw [show jm_ushr 2 16 = 0 by decide +kernel]
    refine jv_iadd rfl rfl ⟨by decide, by decide⟩ ?_
    rw [show (2 + 0 : Int) = 2 by decide]
    refine jv_istore_nK (L2 := [some (.inl 2)]) rfl rfl rfl ?_
    refine jv_iload_n rfl rfl rfl ?_
    refine jv_bipush rfl rfl ?_
    refine jv_iand rfl rfl ?_
    rw [show jm_and 2 63 = 2 by decide +kernel]
    refine jv_ireturn rfl (Or.inl rfl) ?_
    rw [show jb_n 9 = 2 by decide +kernel] at k
    exact k
  · refine jv_enter (d := d + 0) jm_p_J6_bitCount_0f7a4 [some (.inl 10)] rfl rfl rfl (Nat.le_of_ble_eq_true rfl) rfl rfl ?_
    refine jv_iload_n rfl rfl rfl ?_
    refine jv_iload_n rfl rfl rfl ?_
    refine jv_iconst rfl rfl ?_
    refine jv_iushr rfl rfl ?_
    rw [show jm_ushr 10 1 = 5 by decide +kernel]
    refine jv_ldc_w rfl rfl ?_
    refine jv_iand rfl rfl ?_
    rw [show jm_and 5 1431655765 = 5 by decide +kernel]
    refine jv_isub rfl rfl ⟨by decide, by decide⟩ ?_
    rw [show (10 - 5 : Int) = 5 by decide]
    refine jv_istore_nK (L2 := [some (.inl 5)]) rfl rfl rfl ?_
    refine jv_iload_n rfl rfl rfl ?_
    refine jv_ldc_w rfl rfl ?_
    refine jv_iand rfl rfl ?_
    rw [show jm_and 5 858993459 = 1 by decide +kernel]
    refine jv_iload_n rfl rfl rfl ?_
    refine jv_iconst rfl rfl ?_
    refine jv_iushr rfl rfl ?_
    rw [show jm_ushr 5 2 = 1 by decide +kernel]
    refine jv_ldc_w rfl rfl ?_
    refine jv_iand rfl rfl ?_
    rw [show jm_and 1 858993459 = 1 by decide +kernel]
    refine jv_iadd rfl rfl ⟨by decide, by decide⟩ ?_
    rw [show (1 + 1 : Int) = 2 by decide]
    refine jv_istore_nK (L2 := [some (.inl 2)]) rfl rfl rfl ?_
    refine jv_iload_n rfl rfl rfl ?_
    refine jv_iload_n rfl rfl rfl ?_
    refine jv_iconst rfl rfl ?_
    refine jv_iushr rfl rfl ?_
    rw [show jm_ushr 2 4 = 0 by decide +kernel]
    refine jv_iadd rfl rfl ⟨by decide, by decide⟩ ?_
    rw [show (2 + 0 : Int) = 2 by decide]
    refine jv_ldc_w rfl rfl ?_
    refine jv_iand rfl rfl ?_
    rw [show jm_and 2 252645135 = 2 by decide +kernel]
    refine jv_istore_nK (L2 := [some (.inl 2)]) rfl rfl rfl ?_
    refine jv_iload_n rfl rfl rfl ?_
    refine jv_iload_n rfl rfl rfl ?_
    refine jv_bipush rfl rfl ?_
    refine jv_iushr rfl rfl ?_
    rw [show jm_ushr 2 8 = 0 by decide +kernel]
    refine jv_iadd rfl rfl ⟨by decide, by decide⟩ ?_
    rw [show (2 + 0 : Int) = 2 by decide]
    refine jv_istore_nK (L2 := [some (.inl 2)]) rfl rfl rfl ?_
    refine jv_iload_n rfl rfl rfl ?_
    refine jv_iload_n rfl rfl rfl ?_
    refine jv_bipush rfl rfl ?_
    refine jv_iushr rfl rfl ?_
    rw [show jm_ushr 2 16 = 0 by decide +kernel]
    refine jv_iadd rfl rfl ⟨by decide, by decide⟩ ?_
    rw [show (2 + 0 : Int) = 2 by decide]
    refine jv_istore_nK (L2 := [some (.inl 2)]) rfl rfl rfl ?_
    refine jv_iload_n rfl rfl rfl ?_
    refine jv_bipush rfl rfl ?_
    refine jv_iand rfl rfl ?_
    rw [show jm_and 2 63 = 2 by decide +kernel]
    refine jv_ireturn rfl (Or.inl rfl) ?_
    rw [show jb_n 10 = 2 by decide +kernel] at k
    exact k
  · refine jv_enter (d := d + 0) jm_p_J6_bitCount_0f7a4 [some (.inl 11)] rfl rfl rfl (Nat.le_of_ble_eq_true rfl) rfl rfl ?_
    refine jv_iload_n rfl rfl rfl ?_
    refine jv_iload_n rfl rfl rfl ?_
    refine jv_iconst rfl rfl ?_
    refine jv_iushr rfl rfl ?_
    rw [show jm_ushr 11 1 = 5 by decide +kernel]
    refine jv_ldc_w rfl rfl ?_
    refine jv_iand rfl rfl ?_
    rw [show jm_and 5 1431655765 = 5 by decide +kernel]
    refine jv_isub rfl rfl ⟨by decide, by decide⟩ ?_
    rw [show (11 - 5 : Int) = 6 by decide]
    refine jv_istore_nK (L2 := [some (.inl 6)]) rfl rfl rfl ?_
    refine jv_iload_n rfl rfl rfl ?_
    refine jv_ldc_w rfl rfl ?_
    refine jv_iand rfl rfl ?_
    rw [show jm_and 6 858993459 = 2 by decide +kernel]
    refine jv_iload_n rfl rfl rfl ?_
    refine jv_iconst rfl rfl ?_
    refine jv_iushr rfl rfl ?_
    rw [show jm_ushr 6 2 = 1 by decide +kernel]
    refine jv_ldc_w rfl rfl ?_
    refine jv_iand rfl rfl ?_
    rw [show jm_and 1 858993459 = 1 by decide +kernel]
    refine jv_iadd rfl rfl ⟨by decide, by decide⟩ ?_
    rw [show (2 + 1 : Int) = 3 by decide]
    refine jv_istore_nK (L2 := [some (.inl 3)]) rfl rfl rfl ?_
    refine jv_iload_n rfl rfl rfl ?_
    refine jv_iload_n rfl rfl rfl ?_
    refine jv_iconst rfl rfl ?_
    refine jv_iushr rfl rfl ?_
    rw [show jm_ushr 3 4 = 0 by decide +kernel]
    refine jv_iadd rfl rfl ⟨by decide, by decide⟩ ?_
    rw [show (3 + 0 : Int) = 3 by decide]
    refine jv_ldc_w rfl rfl ?_
    refine jv_iand rfl rfl ?_
    rw [show jm_and 3 252645135 = 3 by decide +kernel]
    refine jv_istore_nK (L2 := [some (.inl 3)]) rfl rfl rfl ?_
    refine jv_iload_n rfl rfl rfl ?_
    refine jv_iload_n rfl rfl rfl ?_
    refine jv_bipush rfl rfl ?_
    refine jv_iushr rfl rfl ?_
    rw [show jm_ushr 3 8 = 0 by decide +kernel]
    refine jv_iadd rfl rfl ⟨by decide, by decide⟩ ?_
    rw [show (3 + 0 : Int) = 3 by decide]
    refine jv_istore_nK (L2 := [some (.inl 3)]) rfl rfl rfl ?_
    refine jv_iload_n rfl rfl rfl ?_
    refine jv_iload_n rfl rfl rfl ?_
    refine jv_bipush rfl rfl ?_
    refine jv_iushr rfl rfl ?_
    rw [show jm_ushr 3 16 = 0 by decide +kernel]
    refine jv_iadd rfl rfl ⟨by decide, by decide⟩ ?_
    rw [show (3 + 0 : Int) = 3 by decide]
    refine jv_istore_nK (L2 := [some (.inl 3)]) rfl rfl rfl ?_
    refine jv_iload_n rfl rfl rfl ?_
    refine jv_bipush rfl rfl ?_
    refine jv_iand rfl rfl ?_
    rw [show jm_and 3 63 = 3 by decide +kernel]
    refine jv_ireturn rfl (Or.inl rfl) ?_
    rw [show jb_n 11 = 3 by decide +kernel] at k
    exact k
  · refine jv_enter (d := d + 0) jm_p_J6_bitCount_0f7a4 [some (.inl 12)] rfl rfl rfl (Nat.le_of_ble_eq_true rfl) rfl rfl ?_
    refine jv_iload_n rfl rfl rfl ?_
    refine jv_iload_n rfl rfl rfl ?_
    refine jv_iconst rfl rfl ?_
    refine jv_iushr rfl rfl ?_
    rw [show jm_ushr 12 1 = 6 by decide +kernel]
    refine jv_ldc_w rfl rfl ?_
    refine jv_iand rfl rfl ?_
    rw [show jm_and 6 1431655765 = 4 by decide +kernel]
    refine jv_isub rfl rfl ⟨by decide, by decide⟩ ?_
    rw [show (12 - 4 : Int) = 8 by decide]
    refine jv_istore_nK (L2 := [some (.inl 8)]) rfl rfl rfl ?_
    refine jv_iload_n rfl rfl rfl ?_
    refine jv_ldc_w rfl rfl ?_
    refine jv_iand rfl rfl ?_
    rw [show jm_and 8 858993459 = 0 by decide +kernel]
    refine jv_iload_n rfl rfl rfl ?_
    refine jv_iconst rfl rfl ?_
    refine jv_iushr rfl rfl ?_
    rw [show jm_ushr 8 2 = 2 by decide +kernel]
    refine jv_ldc_w rfl rfl ?_
    refine jv_iand rfl rfl ?_
    rw [show jm_and 2 858993459 = 2 by decide +kernel]
    refine jv_iadd rfl rfl ⟨by decide, by decide⟩ ?_
    rw [show (0 + 2 : Int) = 2 by decide]
    refine jv_istore_nK (L2 := [some (.inl 2)]) rfl rfl rfl ?_
    refine jv_iload_n rfl rfl rfl ?_
    refine jv_iload_n rfl rfl rfl ?_
    refine jv_iconst rfl rfl ?_
    refine jv_iushr rfl rfl ?_
    rw [show jm_ushr 2 4 = 0 by decide +kernel]
    refine jv_iadd rfl rfl ⟨by decide, by decide⟩ ?_
    rw [show (2 + 0 : Int) = 2 by decide]
    refine jv_ldc_w rfl rfl ?_
    refine jv_iand rfl rfl ?_
    rw [show jm_and 2 252645135 = 2 by decide +kernel]
    refine jv_istore_nK (L2 := [some (.inl 2)]) rfl rfl rfl ?_
    refine jv_iload_n rfl rfl rfl ?_
    refine jv_iload_n rfl rfl rfl ?_
    refine jv_bipush rfl rfl ?_
    refine jv_iushr rfl rfl ?_
    rw [show jm_ushr 2 8 = 0 by decide +kernel]
    refine jv_iadd rfl rfl ⟨by decide, by decide⟩ ?_
    rw [show (2 + 0 : Int) = 2 by decide]
    refine jv_istore_nK (L2 := [some (.inl 2)]) rfl rfl rfl ?_
    refine jv_iload_n rfl rfl rfl ?_
    refine jv_iload_n rfl rfl rfl ?_
    refine jv_bipush rfl rfl ?_
    refine jv_iushr rfl rfl ?_
    rw [show jm_ushr 2 16 = 0 by decide +kernel]
    refine jv_iadd rfl rfl ⟨by decide, by decide⟩ ?_
    rw [show (2 + 0 : Int) = 2 by decide]
    refine jv_istore_nK (L2 := [some (.inl 2)]) rfl rfl rfl ?_
    refine jv_iload_n rfl rfl rfl ?_
    refine jv_bipush rfl rfl ?_
    refine jv_iand rfl rfl ?_
    rw [show jm_and 2 63 = 2 by decide +kernel]
    refine jv_ireturn rfl (Or.inl rfl) ?_
    rw [show jb_n 12 = 2 by decide +kernel] at k
    exact k
  · refine jv_enter (d := d + 0) jm_p_J6_bitCount_0f7a4 [some (.inl 13)] rfl rfl rfl (Nat.le_of_ble_eq_true rfl) rfl rfl ?_
    refine jv_iload_n rfl rfl rfl ?_
    refine jv_iload_n rfl rfl rfl ?_
    refine jv_iconst rfl rfl ?_
    refine jv_iushr rfl rfl ?_
    rw [show jm_ushr 13 1 = 6 by decide +kernel]
    refine jv_ldc_w rfl rfl ?_
    refine jv_iand rfl rfl ?_
    rw [show jm_and 6 1431655765 = 4 by decide +kernel]
    refine jv_isub rfl rfl ⟨by decide, by decide⟩ ?_
    rw [show (13 - 4 : Int) = 9 by decide]
    refine jv_istore_nK (L2 := [some (.inl 9)]) rfl rfl rfl ?_
    refine jv_iload_n rfl rfl rfl ?_
    refine jv_ldc_w rfl rfl ?_
    refine jv_iand rfl rfl ?_
    rw [show jm_and 9 858993459 = 1 by decide +kernel]
    refine jv_iload_n rfl rfl rfl ?_
    refine jv_iconst rfl rfl ?_
    refine jv_iushr rfl rfl ?_
    rw [show jm_ushr 9 2 = 2 by decide +kernel]
    refine jv_ldc_w rfl rfl ?_
    refine jv_iand rfl rfl ?_
    rw [show jm_and 2 858993459 = 2 by decide +kernel]
    refine jv_iadd rfl rfl ⟨by decide, by decide⟩ ?_
    rw [show (1 + 2 : Int) = 3 by decide]
    refine jv_istore_nK (L2 := [some (.inl 3)]) rfl rfl rfl ?_
    refine jv_iload_n rfl rfl rfl ?_
    refine jv_iload_n rfl rfl rfl ?_
    refine jv_iconst rfl rfl ?_
    refine jv_iushr rfl rfl ?_
    rw [show jm_ushr 3 4 = 0 by decide +kernel]
    refine jv_iadd rfl rfl ⟨by decide, by decide⟩ ?_
    rw [show (3 + 0 : Int) = 3 by decide]
    refine jv_ldc_w rfl rfl ?_
    refine jv_iand rfl rfl ?_
    rw [show jm_and 3 252645135 = 3 by decide +kernel]
    refine jv_istore_nK (L2 := [some (.inl 3)]) rfl rfl rfl ?_
    refine jv_iload_n rfl rfl rfl ?_
    refine jv_iload_n rfl rfl rfl ?_
    refine jv_bipush rfl rfl ?_
    refine jv_iushr rfl rfl ?_
    rw [show jm_ushr 3 8 = 0 by decide +kernel]
    refine jv_iadd rfl rfl ⟨by decide, by decide⟩ ?_
    rw [show (3 + 0 : Int) = 3 by decide]
    refine jv_istore_nK (L2 := [some (.inl 3)]) rfl rfl rfl ?_
    refine jv_iload_n rfl rfl rfl ?_
    refine jv_iload_n rfl rfl rfl ?_
    refine jv_bipush rfl rfl ?_
    refine jv_iushr rfl rfl ?_
    rw [show jm_ushr 3 16 = 0 by decide +kernel]
    refine jv_iadd rfl rfl ⟨by decide, by decide⟩ ?_
    rw [show (3 + 0 : Int) = 3 by decide]
    refine jv_istore_nK (L2 := [some (.inl 3)]) rfl rfl rfl ?_
    refine jv_iload_n rfl rfl rfl ?_
    refine jv_bipush rfl rfl ?_
    refine jv_iand rfl rfl ?_
    rw [show jm_and 3 63 = 3 by decide +kernel]
    refine jv_ireturn rfl (Or.inl rfl) ?_
    rw [show jb_n 13 = 3 by decide +kernel] at k
    exact k
  · refine jv_enter (d := d + 0) jm_p_J6_bitCount_0f7a4 [some (.inl 14)] rfl rfl rfl (Nat.le_of_ble_eq_true rfl) rfl rfl ?_
    refine jv_iload_n rfl rfl rfl ?_
    refine jv_iload_n rfl rfl rfl ?_
    refine jv_iconst rfl rfl ?_
    refine jv_iushr rfl rfl ?_
    rw [show jm_ushr 14 1 = 7 by decide +kernel]
    refine jv_ldc_w rfl rfl ?_
    refine jv_iand rfl rfl ?_
    rw [show jm_and 7 1431655765 = 5 by decide +kernel]
    refine jv_isub rfl rfl ⟨by decide, by decide⟩ ?_
    rw [show (14 - 5 : Int) = 9 by decide]
    refine jv_istore_nK (L2 := [some (.inl 9)]) rfl rfl rfl ?_
    refine jv_iload_n rfl rfl rfl ?_
    refine jv_ldc_w rfl rfl ?_
    refine jv_iand rfl rfl ?_
    rw [show jm_and 9 858993459 = 1 by decide +kernel]
    refine jv_iload_n rfl rfl rfl ?_
    refine jv_iconst rfl rfl ?_
    refine jv_iushr rfl rfl ?_
    rw [show jm_ushr 9 2 = 2 by decide +kernel]
    refine jv_ldc_w rfl rfl ?_
    refine jv_iand rfl rfl ?_
    rw [show jm_and 2 858993459 = 2 by decide +kernel]
    refine jv_iadd rfl rfl ⟨by decide, by decide⟩ ?_
    rw [show (1 + 2 : Int) = 3 by decide]
    refine jv_istore_nK (L2 := [some (.inl 3)]) rfl rfl rfl ?_
    refine jv_iload_n rfl rfl rfl ?_
    refine jv_iload_n rfl rfl rfl ?_
    refine jv_iconst rfl rfl ?_
    refine jv_iushr rfl rfl ?_
    rw [show jm_ushr 3 4 = 0 by decide +kernel]
    refine jv_iadd rfl rfl ⟨by decide, by decide⟩ ?_
    rw [show (3 + 0 : Int) = 3 by decide]
    refine jv_ldc_w rfl rfl ?_
    refine jv_iand rfl rfl ?_
    rw [show jm_and 3 252645135 = 3 by decide +kernel]
    refine jv_istore_nK (L2 := [some (.inl 3)]) rfl rfl rfl ?_
    refine jv_iload_n rfl rfl rfl ?_
    refine jv_iload_n rfl rfl rfl ?_
    refine jv_bipush rfl rfl ?_
    refine jv_iushr rfl rfl ?_
    rw [show jm_ushr 3 8 = 0 by decide +kernel]
    refine jv_iadd rfl rfl ⟨by decide, by decide⟩ ?_
    rw [show (3 + 0 : Int) = 3 by decide]
    refine jv_istore_nK (L2 := [some (.inl 3)]) rfl rfl rfl ?_
    refine jv_iload_n rfl rfl rfl ?_
    refine jv_iload_n rfl rfl rfl ?_
    refine jv_bipush rfl rfl ?_
    refine jv_iushr rfl rfl ?_
    rw [show jm_ushr 3 16 = 0 by decide +kernel]
    refine jv_iadd rfl rfl ⟨by decide, by decide⟩ ?_
    rw [show (3 + 0 : Int) = 3 by decide]
    refine jv_istore_nK (L2 := [some (.inl 3)]) rfl rfl rfl ?_
    refine jv_iload_n rfl rfl rfl ?_
    refine jv_bipush rfl rfl ?_
    refine jv_iand rfl rfl ?_
    rw [show jm_and 3 63 = 3 by decide +kernel]
    refine jv_ireturn rfl (Or.inl rfl) ?_
    rw [show jb_n 14 = 3 by decide +kernel] at k
    exact k
  · refine jv_enter (d := d + 0) jm_p_J6_bitCount_0f7a4 [some (.inl 15)] rfl rfl rfl (Nat.le_of_ble_eq_true rfl) rfl rfl ?_
    refine jv_iload_n rfl rfl rfl ?_
    refine jv_iload_n rfl rfl rfl ?_
    refine jv_iconst rfl rfl ?_
    refine jv_iushr rfl rfl ?_
    rw [show jm_ushr 15 1 = 7 by decide +kernel]
    refine jv_ldc_w rfl rfl ?_
    refine jv_iand rfl rfl ?_
    rw [show jm_and 7 1431655765 = 5 by decide +kernel]
    refine jv_isub rfl rfl ⟨by decide, by decide⟩ ?_
    rw [show (15 - 5 : Int) = 10 by decide]
    refine jv_istore_nK (L2 := [some (.inl 10)]) rfl rfl rfl ?_
    refine jv_iload_n rfl rfl rfl ?_
    refine jv_ldc_w rfl rfl ?_
    refine jv_iand rfl rfl ?_
    rw [show jm_and 10 858993459 = 2 by decide +kernel]
    refine jv_iload_n rfl rfl rfl ?_
    refine jv_iconst rfl rfl ?_
    refine jv_iushr rfl rfl ?_
    rw [show jm_ushr 10 2 = 2 by decide +kernel]
    refine jv_ldc_w rfl rfl ?_
    refine jv_iand rfl rfl ?_
    rw [show jm_and 2 858993459 = 2 by decide +kernel]
    refine jv_iadd rfl rfl ⟨by decide, by decide⟩ ?_
    rw [show (2 + 2 : Int) = 4 by decide]
    refine jv_istore_nK (L2 := [some (.inl 4)]) rfl rfl rfl ?_
    refine jv_iload_n rfl rfl rfl ?_
    refine jv_iload_n rfl rfl rfl ?_
    refine jv_iconst rfl rfl ?_
    refine jv_iushr rfl rfl ?_
    rw [show jm_ushr 4 4 = 0 by decide +kernel]
    refine jv_iadd rfl rfl ⟨by decide, by decide⟩ ?_
    rw [show (4 + 0 : Int) = 4 by decide]
    refine jv_ldc_w rfl rfl ?_
    refine jv_iand rfl rfl ?_
    rw [show jm_and 4 252645135 = 4 by decide +kernel]
    refine jv_istore_nK (L2 := [some (.inl 4)]) rfl rfl rfl ?_
    refine jv_iload_n rfl rfl rfl ?_
    refine jv_iload_n rfl rfl rfl ?_
    refine jv_bipush rfl rfl ?_
    refine jv_iushr rfl rfl ?_
    rw [show jm_ushr 4 8 = 0 by decide +kernel]
    refine jv_iadd rfl rfl ⟨by decide, by decide⟩ ?_
    rw [show (4 + 0 : Int) = 4 by decide]
    refine jv_istore_nK (L2 := [some (.inl 4)]) rfl rfl rfl ?_
    refine jv_iload_n rfl rfl rfl ?_
    refine jv_iload_n rfl rfl rfl ?_
    refine jv_bipush rfl rfl ?_
    refine jv_iushr rfl rfl ?_
    rw [show jm_ushr 4 16 = 0 by decide +kernel]
    refine jv_iadd rfl rfl ⟨by decide, by decide⟩ ?_
    rw [show (4 + 0 : Int) = 4 by decide]
    refine jv_istore_nK (L2 := [some (.inl 4)]) rfl rfl rfl ?_
    refine jv_iload_n rfl rfl rfl ?_
    refine jv_bipush rfl rfl ?_
    refine jv_iand rfl rfl ?_
    rw [show jm_and 4 63 = 4 by decide +kernel]
    refine jv_ireturn rfl (Or.inl rfl) ?_
    rw [show jb_n 15 = 4 by decide +kernel] at k
    exact k
/-- what is carried in if those of the set s come, behind the beating of the mats w -/
def jcost (t : Int → Int) (s w : Int) : Int := (jc (fun c => decide (jm_and (jm_shr s c) 1 = 1)) (jbt (fun m => decide (jm_and (jm_shr w m) 1 = 1)) t (t 0).toNat) (t 1).toNat).1
def jbest (cost : Int → Int) (q : Int) : Nat → Int → Prop
  | 0, f => f = -1000000
  | k + 1, f => ∃ g, jbest cost q k g ∧ ((((g = -1000000 ∨ jb_n k < jb_n g) ∧ cost k ≤ q) ∧ f = k) ∨ (¬ ((g = -1000000 ∨ jb_n k < jb_n g) ∧ cost k ≤ q) ∧ f = g))
theorem jbest_r {cost : Int → Int} {q : Int} : ∀ (k : Nat) (f : Int), jbest cost q k f → f = -1000000 ∨ (0 ≤ f ∧ f < k)
  | 0, f, h => Or.inl h
  | k + 1, f, h => by
    obtain ⟨g, h1, ⟨-, e⟩ | ⟨-, e⟩⟩ := h
    · omega
    · have i := jbest_r k g h1
      omega
theorem jbest_one {cost : Int → Int} {q : Int} : ∀ (k : Nat) (f f' : Int), jbest cost q k f → jbest cost q k f' → f = f'
  | 0, f, f', h, h' => by
    have e : f = -1000000 := h
    have e' : f' = -1000000 := h'
    rw [e, e']
  | k + 1, f, f', h, h' => by
    obtain ⟨g, h1, h2⟩ := h
    obtain ⟨g', h1', h2'⟩ := h'
    have e := jbest_one k g g' h1 h1'
    subst e
    rcases h2 with ⟨a1, a2⟩ | ⟨a1, a2⟩ <;> rcases h2' with ⟨b1, b2⟩ | ⟨b1, b2⟩
    · rw [a2, b2]
    · exact absurd a1 b1
    · exact absurd b1 a1
    · rw [a2, b2]
theorem cl_carIfC {X : jm_X} {d : Nat} {Q : jv_P} {μ : jm_M} {t : Int → Int} {s q K0 : Int} (hHμ : jH μ t) (hcf : jt_cf t K0) (k : ∀ μ2, jf μ μ2 → Q [.inl (jcost t s q)] μ2) : cV X (d + 4) 19 [.inr (.inr 49), .inr (.inr 7), .inl s, .inl q] μ Q :=
  cl_carIf hHμ hcf (fun _ _ _ => decide_eq_true_iff) (fun _ _ _ => decide_eq_true_iff) k
set_option maxRecDepth 10000 in
theorem cl_fewest_l {X : jm_X} {d : Nat} {Q : jv_P} {t : Int → Int} {s q K0 N : Int} {μ0 : jm_M} (hH0 : jH μ0 t) (hcf : jt_cf t K0) (hN : jm_shl 1 (t 0) = N) (hN6 : 1 ≤ N ∧ N ≤ 16) (k : ∀ f μ2, jbest (jcost t s) q N.toNat f → jf μ0 μ2 → Q [.inl f] μ2) : ∀ (n : Nat) (f w : Int) (o6 : Option jm_V) (μ : jm_M), 0 ≤ w → w ≤ N → N - w < n → jbest (jcost t s) q w.toNat f → jf μ0 μ → jV X (d + 4) jm_p_X2_fewestBeaten Q 4 [some (.inr (.inr 49)), some (.inr (.inr 7)), some (.inl s), some (.inl q), some (.inl f), some (.inl w), o6] [] μ := by
  intro n
  induction n with
  | zero => intro f w o6 μ y0 y1 yn hs hf; exfalso; omega
  | succ n ih =>
    intro f w o6 μ y0 y1 yn hs hf
    have hHμ := jH_jf hf hH0
    have n2μ := jH_2 hHμ
    have eN : jm_shl 1 (μ 7 2) = N := by rw [n2μ]; exact hN
    have hr := jbest_r _ _ hs
    refine jv_iload rfl rfl rfl ?_
    refine jv_iconst rfl rfl ?_
    refine jv_aload_n rfl rfl rfl (by decide) ?_
    refine jv_geti rfl rfl rfl ⟨by decide, rfl⟩ (by decide) ?_
    refine jv_ishl rfl rfl ?_
    refine jv_icmp_ge rfl rfl rfl (fun c9 => ?_) (fun c9 => ?_)
    · refine jv_iload rfl rfl rfl ?_
      refine jv_ireturn rfl (Or.inl rfl) ?_
      have hw : w = N := by omega
      rw [hw] at hs
      exact k _ _ hs hf
    · refine jv_iload rfl rfl rfl ?_
      refine jv_ldc rfl rfl ?_
      refine jv_icmp_eq rfl rfl rfl (fun c12 => ?_) (fun c12 => ?_)
      · refine jv_iconst rfl rfl ?_
        refine jv_goto rfl rfl ?_
        refine jv_istoreK (L2 := [some (.inr (.inr 49)), some (.inr (.inr 7)), some (.inl s), some (.inl q), some (.inl f), some (.inl w), some (.inl 1)]) rfl rfl rfl ?_
        refine jv_iload rfl rfl rfl ?_
        refine jv_if_eqF rfl rfl (by decide) ?_
        refine jv_aload_n rfl rfl rfl (by decide) ?_
        refine jv_aload_n rfl rfl rfl (by decide) ?_
        refine jv_iload_n rfl rfl rfl ?_
        refine jv_iload rfl rfl rfl ?_
        refine jv_callV3 rfl rfl rfl rfl ⟨by decide, rfl⟩ (Nat.le_of_ble_eq_true rfl) (cl_carIfC hHμ hcf (fun μ28 fμ28 => ?_))
        show jV _ _ jm_p_X2_fewestBeaten _ 29 [some (.inr (.inr 49)), some (.inr (.inr 7)), some (.inl s), some (.inl q), some (.inl f), some (.inl w), some (.inl 1)] [.inl (jcost t s w)] μ28
        refine jv_iload_n rfl rfl rfl ?_
        refine jv_icmp_gt rfl rfl rfl (fun c30 => ?_) (fun c30 => ?_)
        · refine jv_iinc (fun x => [some (.inr (.inr 49)), some (.inr (.inr 7)), some (.inl s), some (.inl q), some (.inl f), some (.inl x), some (.inl 1)]) rfl rfl rfl ⟨by omega, by omega⟩ (fun _ => rfl) (fun x5_33 ex5_33 => ?_)
          refine jv_goto rfl rfl ?_
          refine ih f x5_33 _ μ28 (by omega) (by omega) (by omega) ?_ (jf_tr hf fμ28)
          rw [ex5_33, show (w + 1).toNat = w.toNat + 1 by omega]
          refine ⟨f, hs, ?_⟩
          rw [show ((w.toNat : Nat) : Int) = w by omega]
          exact Or.inr ⟨by omega, rfl⟩
        · refine jv_iload rfl rfl rfl ?_
          refine jv_istore (fun x => [some (.inr (.inr 49)), some (.inr (.inr 7)), some (.inl s), some (.inl q), some (.inl x), some (.inl w), some (.inl 1)]) rfl rfl (fun _ => rfl) (fun x4_32 ex4_32 => ?_)
          refine jv_iinc (fun x => [some (.inr (.inr 49)), some (.inr (.inr 7)), some (.inl s), some (.inl q), some (.inl x4_32), some (.inl x), some (.inl 1)]) rfl rfl rfl ⟨by omega, by omega⟩ (fun _ => rfl) (fun x5_33_1 ex5_33_1 => ?_)
          refine jv_goto rfl rfl ?_
          refine ih x4_32 x5_33_1 _ μ28 (by omega) (by omega) (by omega) ?_ (jf_tr hf fμ28)
          rw [ex5_33_1, show (w + 1).toNat = w.toNat + 1 by omega]
          refine ⟨f, hs, ?_⟩
          rw [show ((w.toNat : Nat) : Int) = w by omega]
          exact Or.inl ⟨by omega, ex4_32⟩
      · refine jv_iload rfl rfl rfl ?_
        refine jv_callS1 rfl rfl rfl (Nat.le_of_ble_eq_true rfl) (cl_bitCount (by omega) ?_)
        show jV _ _ jm_p_X2_fewestBeaten _ 15 [some (.inr (.inr 49)), some (.inr (.inr 7)), some (.inl s), some (.inl q), some (.inl f), some (.inl w), o6] [.inl (jb_n w)] μ
        refine jv_iload rfl rfl rfl ?_
        refine jv_callS1 rfl rfl rfl (Nat.le_of_ble_eq_true rfl) (cl_bitCount (by omega) ?_)
        show jV _ _ jm_p_X2_fewestBeaten _ 17 [some (.inr (.inr 49)), some (.inr (.inr 7)), some (.inl s), some (.inl q), some (.inl f), some (.inl w), o6] [.inl (jb_n f), .inl (jb_n w)] μ
        refine jv_icmp_ge rfl rfl rfl (fun c17 => ?_) (fun c17 => ?_)
        · refine jv_iconst rfl rfl ?_
          refine jv_istoreK (L2 := [some (.inr (.inr 49)), some (.inr (.inr 7)), some (.inl s), some (.inl q), some (.inl f), some (.inl w), some (.inl 0)]) rfl rfl rfl ?_
          refine jv_iload rfl rfl rfl ?_
          refine jv_if_eqT rfl rfl (by decide) ?_
          refine jv_iinc (fun x => [some (.inr (.inr 49)), some (.inr (.inr 7)), some (.inl s), some (.inl q), some (.inl f), some (.inl x), some (.inl 0)]) rfl rfl rfl ⟨by omega, by omega⟩ (fun _ => rfl) (fun x5_33_2 ex5_33_2 => ?_)
          refine jv_goto rfl rfl ?_
          refine ih f x5_33_2 _ μ (by omega) (by omega) (by omega) ?_ hf
          rw [ex5_33_2, show (w + 1).toNat = w.toNat + 1 by omega]
          refine ⟨f, hs, ?_⟩
          rw [show ((w.toNat : Nat) : Int) = w by omega]
          exact Or.inr ⟨by omega, rfl⟩
        · refine jv_iconst rfl rfl ?_
          refine jv_goto rfl rfl ?_
          refine jv_istoreK (L2 := [some (.inr (.inr 49)), some (.inr (.inr 7)), some (.inl s), some (.inl q), some (.inl f), some (.inl w), some (.inl 1)]) rfl rfl rfl ?_
          refine jv_iload rfl rfl rfl ?_
          refine jv_if_eqF rfl rfl (by decide) ?_
          refine jv_aload_n rfl rfl rfl (by decide) ?_
          refine jv_aload_n rfl rfl rfl (by decide) ?_
          refine jv_iload_n rfl rfl rfl ?_
          refine jv_iload rfl rfl rfl ?_
          refine jv_callV3 rfl rfl rfl rfl ⟨by decide, rfl⟩ (Nat.le_of_ble_eq_true rfl) (cl_carIfC hHμ hcf (fun μ28_1 fμ28_1 => ?_))
          show jV _ _ jm_p_X2_fewestBeaten _ 29 [some (.inr (.inr 49)), some (.inr (.inr 7)), some (.inl s), some (.inl q), some (.inl f), some (.inl w), some (.inl 1)] [.inl (jcost t s w)] μ28_1
          refine jv_iload_n rfl rfl rfl ?_
          refine jv_icmp_gt rfl rfl rfl (fun c30_1 => ?_) (fun c30_1 => ?_)
          · refine jv_iinc (fun x => [some (.inr (.inr 49)), some (.inr (.inr 7)), some (.inl s), some (.inl q), some (.inl f), some (.inl x), some (.inl 1)]) rfl rfl rfl ⟨by omega, by omega⟩ (fun _ => rfl) (fun x5_33_3 ex5_33_3 => ?_)
            refine jv_goto rfl rfl ?_
            refine ih f x5_33_3 _ μ28_1 (by omega) (by omega) (by omega) ?_ (jf_tr hf fμ28_1)
            rw [ex5_33_3, show (w + 1).toNat = w.toNat + 1 by omega]
            refine ⟨f, hs, ?_⟩
            rw [show ((w.toNat : Nat) : Int) = w by omega]
            exact Or.inr ⟨by omega, rfl⟩
          · refine jv_iload rfl rfl rfl ?_
            refine jv_istore (fun x => [some (.inr (.inr 49)), some (.inr (.inr 7)), some (.inl s), some (.inl q), some (.inl x), some (.inl w), some (.inl 1)]) rfl rfl (fun _ => rfl) (fun x4_32_1 ex4_32_1 => ?_)
            refine jv_iinc (fun x => [some (.inr (.inr 49)), some (.inr (.inr 7)), some (.inl s), some (.inl q), some (.inl x4_32_1), some (.inl x), some (.inl 1)]) rfl rfl rfl ⟨by omega, by omega⟩ (fun _ => rfl) (fun x5_33_4 ex5_33_4 => ?_)
            refine jv_goto rfl rfl ?_
            refine ih x4_32_1 x5_33_4 _ μ28_1 (by omega) (by omega) (by omega) ?_ (jf_tr hf fμ28_1)
            rw [ex5_33_4, show (w + 1).toNat = w.toNat + 1 by omega]
            refine ⟨f, hs, ?_⟩
            rw [show ((w.toNat : Nat) : Int) = w by omega]
            exact Or.inl ⟨by omega, ex4_32_1⟩
set_option maxRecDepth 10000 in
theorem cl_fewest {X : jm_X} {d : Nat} {Q : jv_P} {μ : jm_M} {t : Int → Int} {s q K0 N : Int} (hH0 : jH μ t) (hcf : jt_cf t K0) (hN : jm_shl 1 (t 0) = N) (hN6 : 1 ≤ N ∧ N ≤ 16) (k : ∀ f μ2, jbest (jcost t s) q N.toNat f → jf μ μ2 → Q [.inl f] μ2) : cV X (d + 5) 18 [.inr (.inr 49), .inr (.inr 7), .inl s, .inl q] μ Q := by
  refine jv_enter (d := d + 4) jm_p_X2_fewestBeaten [some (.inr (.inr 49)), some (.inr (.inr 7)), some (.inl s), some (.inl q), none, none, none] rfl rfl rfl (Nat.le_of_ble_eq_true rfl) rfl rfl ?_
  refine jv_ldc rfl rfl ?_
  refine jv_istoreK (L2 := [some (.inr (.inr 49)), some (.inr (.inr 7)), some (.inl s), some (.inl q), some (.inl (-1000000)), none, none]) rfl rfl rfl ?_
  refine jv_iconst rfl rfl ?_
  refine jv_istoreK (L2 := [some (.inr (.inr 49)), some (.inr (.inr 7)), some (.inl s), some (.inl q), some (.inl (-1000000)), some (.inl 0), none]) rfl rfl rfl ?_
  exact cl_fewest_l hH0 hcf hN hN6 k 20 (-1000000) 0 _ μ (by omega) (by omega) (by omega) rfl (jf_id μ)
set_option maxRecDepth 10000 in
theorem mo_beatIn_l {X : jm_X} {d : Nat} {Q : jv_P} {t : Int → Int} {s q y f w : Int} {μ0 : jm_M} (hU0 : jU μ0 t) (hw : jt_wf t) (hcf : jt_cf t 99990) (k : ∀ (m : Int) (μ2 : jm_M), jr μ0 μ2 → jT μ2 (jbt (fun m => decide (jm_and (jm_shr w m) 1 = 1)) t (t 0).toNat) → jV X (d + 2) jm_p_X10_beating Q 66 [some (.inr (.inr 94)), some (.inl s), some (.inl q), some (.inl y), some (.inl f), some (.inl w), some (.inl m)] [] μ2) : ∀ (n : Nat) (m : Int) (μ : jm_M), 0 ≤ m → m ≤ t 0 → t 0 - m < n → jT μ (jbt (fun m => decide (jm_and (jm_shr w m) 1 = 1)) t m.toNat) → jr μ0 μ → jV X (d + 2) jm_p_X10_beating Q 49 [some (.inr (.inr 94)), some (.inl s), some (.inl q), some (.inl y), some (.inl f), some (.inl w), some (.inl m)] [] μ := by
  intro n
  induction n with
  | zero => intro m μ y0 y1 yn hT hf; exfalso; omega
  | succ n ih =>
    intro m μ y0 y1 yn hT hf
    have hUμ := jU_jr hf hU0
    have u0μ := hUμ 0 (by decide) (by decide)
    have w0 := hw.1
    have hv := jbt_inv (q := (fun m => decide (jm_and (jm_shr w m) 1 = 1))) hw (jS_id t) hcf w0.2 m.toNat (by omega)
    refine jv_iload rfl rfl rfl ?_
    refine jv_aload_n rfl rfl rfl (by decide) ?_
    refine jv_getr (w := 95) rfl rfl rfl ⟨by decide, rfl⟩ rfl rfl ?_
    refine jv_iconst rfl rfl ?_
    refine jv_iaload rfl rfl (by decide) rfl ⟨by omega, by omega⟩ ?_
    refine jv_icmp_ge rfl rfl rfl (fun c54 => ?_) (fun c54 => ?_)
    · have hm : m = t 0 := by omega
      exact k m _ hf (by rw [hm] at hT; exact hT)
    · refine jv_iload rfl rfl rfl ?_
      refine jv_iload rfl rfl rfl ?_
      refine jv_callS2 rfl rfl rfl (Nat.le_of_ble_eq_true rfl) (mo_has (fun b57 => ?_) (fun b57 => ?_))
      · show jV _ _ jm_p_X10_beating _ 58 [some (.inr (.inr 94)), some (.inl s), some (.inl q), some (.inl y), some (.inl f), some (.inl w), some (.inl m)] [.inl 1] μ
        refine jv_if_eqF rfl rfl (by decide) ?_
        refine jv_aload_n rfl rfl rfl (by decide) ?_
        refine jv_sipush rfl rfl ?_
        refine jv_iload rfl rfl rfl ?_
        refine jv_callV2 rfl rfl rfl rfl ⟨by decide, rfl⟩ (Nat.le_of_ble_eq_true rfl) (mo_beatsT hT (by omega) hv.1 (fun μ62 fμ62 tμ62 => ?_))
        show jV _ _ jm_p_X10_beating _ 63 [some (.inr (.inr 94)), some (.inl s), some (.inl q), some (.inl y), some (.inl f), some (.inl w), some (.inl m)] [.inl (jt_lies (jbt (fun m => decide (jm_and (jm_shr w m) 1 = 1)) t m.toNat) m)] μ62
        have hUμ62 := jU_jr fμ62 hUμ
        have u0μ62 := hUμ62 0 (by decide) (by decide)
        have u1μ62 := hUμ62 1 (by decide) (by decide)
        refine jv_pop rfl rfl ?_
        refine jv_iinc (fun x => [some (.inr (.inr 94)), some (.inl s), some (.inl q), some (.inl y), some (.inl f), some (.inl w), some (.inl x)]) rfl rfl rfl ⟨by omega, by omega⟩ (fun _ => rfl) (fun x6_64 ex6_64 => ?_)
        refine jv_goto rfl rfl ?_
        refine ih x6_64 μ62 (by omega) (by omega) (by omega) ?_ (jr_tr hf fμ62)
        rw [ex6_64, show (m + 1).toNat = m.toNat + 1 by omega]
        simp only [jbt]
        rw [show ((m.toNat : Nat) : Int) = m by omega]
        rw [if_pos (decide_eq_true_iff.2 b57)]
        exact tμ62
      · show jV _ _ jm_p_X10_beating _ 58 [some (.inr (.inr 94)), some (.inl s), some (.inl q), some (.inl y), some (.inl f), some (.inl w), some (.inl m)] [.inl 0] μ
        refine jv_if_eqT rfl rfl (by decide) ?_
        refine jv_iinc (fun x => [some (.inr (.inr 94)), some (.inl s), some (.inl q), some (.inl y), some (.inl f), some (.inl w), some (.inl x)]) rfl rfl rfl ⟨by omega, by omega⟩ (fun _ => rfl) (fun x6_64_1 ex6_64_1 => ?_)
        refine jv_goto rfl rfl ?_
        refine ih x6_64_1 μ (by omega) (by omega) (by omega) ?_ hf
        rw [ex6_64_1, show (m + 1).toNat = m.toNat + 1 by omega]
        simp only [jbt]
        rw [show ((m.toNat : Nat) : Int) = m by omega]
        rw [if_neg (fun z => b57 (decide_eq_true_iff.1 z))]
        exact hT
set_option maxRecDepth 10000 in
theorem mo_beating_l {X : jm_X} {d : Nat} {Q : jv_P} {t : Int → Int} {s q y N : Int} {μ0 : jm_M} (hU0 : jU μ0 t) (hw : jt_wf t) (hcf : jt_cf t 99990) (hs6 : 0 ≤ s ∧ s < 64) (hN : jm_shl 1 (t 0) = N) (hN6 : 1 ≤ N ∧ N ≤ 16) (k : ∀ (f w : Int) (o6 : Option jm_V) (μ2 : jm_M), jbest (jcost t s) q N.toNat f → jr μ0 μ2 → jV X (d + 4) jm_p_X10_beating Q 93 [some (.inr (.inr 94)), some (.inl s), some (.inl q), some (.inl y), some (.inl f), some (.inl w), o6] [] μ2) : ∀ (n : Nat) (f w : Int) (o6 : Option jm_V) (μ : jm_M), 0 ≤ w → w ≤ N → N - w < n → jbest (jcost t s) q w.toNat f → jr μ0 μ → jV X (d + 4) jm_p_X10_beating Q 37 [some (.inr (.inr 94)), some (.inl s), some (.inl q), some (.inl y), some (.inl f), some (.inl w), o6] [] μ := by
  intro n
  induction n with
  | zero => intro f w o6 μ y0 y1 yn hs hf; exfalso; omega
  | succ n ih =>
    intro f w o6 μ y0 y1 yn hs hf
    have hUμ := jU_jr hf hU0
    have u0μ := hUμ 0 (by decide) (by decide)
    have eN : jm_shl 1 (μ 95 0) = N := by rw [u0μ]; exact hN
    have hr := jbest_r _ _ hs
    have w0 := hw.1
    have w1 := hw.2.1
    have hv := jbt_inv (q := (fun m => decide (jm_and (jm_shr w m) 1 = 1))) hw (jS_id t) hcf w0.2 (t 0).toNat (by omega)
    refine jv_iload rfl rfl rfl ?_
    refine jv_iconst rfl rfl ?_
    refine jv_aload_n rfl rfl rfl (by decide) ?_
    refine jv_getr (w := 95) rfl rfl rfl ⟨by decide, rfl⟩ rfl rfl ?_
    refine jv_iconst rfl rfl ?_
    refine jv_iaload rfl rfl (by decide) rfl ⟨by omega, by omega⟩ ?_
    refine jv_ishl rfl rfl ?_
    refine jv_icmp_ge rfl rfl rfl (fun c44 => ?_) (fun c44 => ?_)
    · have hw : w = N := by omega
      exact k f w _ _ (by rw [hw] at hs; exact hs) hf
    · refine jv_aload_n rfl rfl rfl (by decide) ?_
      refine jv_callV0 rfl rfl rfl rfl ⟨by decide, rfl⟩ (Nat.le_of_ble_eq_true rfl) (mo_layTried hUμ (fun μ46 fμ46 tμ46 => ?_))
      show jV _ _ jm_p_X10_beating _ 47 [some (.inr (.inr 94)), some (.inl s), some (.inl q), some (.inl y), some (.inl f), some (.inl w), o6] [] μ46
      have hUμ46 := jU_jr fμ46 hUμ
      have u0μ46 := hUμ46 0 (by decide) (by decide)
      have u1μ46 := hUμ46 1 (by decide) (by decide)
      refine jv_iconst rfl rfl ?_
      refine jv_istoreK (L2 := [some (.inr (.inr 94)), some (.inl s), some (.inl q), some (.inl y), some (.inl f), some (.inl w), some (.inl 0)]) rfl rfl rfl ?_
      refine mo_beatIn_l hUμ46 hw hcf (fun m49 μ49 f49 t49 => ?_) 9 0 μ46 (by omega) w0.1 (by omega) tμ46 (jr_id _)
      have hUμ49 := jU_jr f49 hUμ46
      refine jv_aload_n rfl rfl rfl (by decide) ?_
      refine jv_iload_n rfl rfl rfl ?_
      refine jv_iconst rfl rfl ?_
      refine jv_ixor rfl rfl ?_
      refine jv_callV1 rfl rfl rfl rfl ⟨by decide, rfl⟩ (Nat.le_of_ble_eq_true rfl) (mo_comeAll (b := fun c => decide (jm_and (jm_shr s c) 1 = 1)) (la := fun p => p) hUμ49 hv.1 hv.2.1 hv.2.2 w0.2 w1 (fun c c0 c1 => by rw [decide_eq_true_iff, jb_not hs6.1 hs6.2 c0 c1]; exact (Decidable.not_not).symm) t49 (fun μ70 fμ70 tμ70 => ?_))
      show jV _ _ jm_p_X10_beating _ 71 [some (.inr (.inr 94)), some (.inl s), some (.inl q), some (.inl y), some (.inl f), some (.inl w), some (.inl m49)] [.inl (jcost t s w)] μ70
      refine jv_iload_n rfl rfl rfl ?_
      refine jv_icmp_gt rfl rfl rfl (fun c72 => ?_) (fun c72 => ?_)
      · refine jv_iconst rfl rfl ?_
        refine jv_istoreK (L2 := [some (.inr (.inr 94)), some (.inl s), some (.inl q), some (.inl y), some (.inl f), some (.inl w), some (.inl 0)]) rfl rfl rfl ?_
        refine jv_iload rfl rfl rfl ?_
        refine jv_if_eqT rfl rfl (by decide) ?_
        refine jv_iload rfl rfl rfl ?_
        refine jv_istore (fun x => [some (.inr (.inr 94)), some (.inl s), some (.inl q), some (.inl y), some (.inl x), some (.inl w), some (.inl 0)]) rfl rfl (fun _ => rfl) (fun x4_90 ex4_90 => ?_)
        refine jv_iinc (fun x => [some (.inr (.inr 94)), some (.inl s), some (.inl q), some (.inl y), some (.inl x4_90), some (.inl x), some (.inl 0)]) rfl rfl rfl ⟨by omega, by omega⟩ (fun _ => rfl) (fun x5_91 ex5_91 => ?_)
        refine jv_goto rfl rfl ?_
        refine ih x4_90 x5_91 _ μ70 (by omega) (by omega) (by omega) ?_ (jr_tr (jr_tr (jr_tr hf fμ46) f49) fμ70)
        rw [ex5_91, show (w + 1).toNat = w.toNat + 1 by omega]
        refine ⟨f, hs, ?_⟩
        rw [show ((w.toNat : Nat) : Int) = w by omega]
        first
        | exact Or.inl ⟨by omega, ex4_90⟩
        | exact Or.inr ⟨by omega, ex4_90⟩
      · refine jv_iload rfl rfl rfl ?_
        refine jv_ldc rfl rfl ?_
        refine jv_icmp_eq rfl rfl rfl (fun c75 => ?_) (fun c75 => ?_)
        · refine jv_iconst rfl rfl ?_
          refine jv_goto rfl rfl ?_
          refine jv_istoreK (L2 := [some (.inr (.inr 94)), some (.inl s), some (.inl q), some (.inl y), some (.inl f), some (.inl w), some (.inl 1)]) rfl rfl rfl ?_
          refine jv_iload rfl rfl rfl ?_
          refine jv_if_eqF rfl rfl (by decide) ?_
          refine jv_iload rfl rfl rfl ?_
          refine jv_goto rfl rfl ?_
          refine jv_istore (fun x => [some (.inr (.inr 94)), some (.inl s), some (.inl q), some (.inl y), some (.inl x), some (.inl w), some (.inl 1)]) rfl rfl (fun _ => rfl) (fun x4_90_1 ex4_90_1 => ?_)
          refine jv_iinc (fun x => [some (.inr (.inr 94)), some (.inl s), some (.inl q), some (.inl y), some (.inl x4_90_1), some (.inl x), some (.inl 1)]) rfl rfl rfl ⟨by omega, by omega⟩ (fun _ => rfl) (fun x5_91_1 ex5_91_1 => ?_)
          refine jv_goto rfl rfl ?_
          refine ih x4_90_1 x5_91_1 _ μ70 (by omega) (by omega) (by omega) ?_ (jr_tr (jr_tr (jr_tr hf fμ46) f49) fμ70)
          rw [ex5_91_1, show (w + 1).toNat = w.toNat + 1 by omega]
          refine ⟨f, hs, ?_⟩
          rw [show ((w.toNat : Nat) : Int) = w by omega]
          first
          | exact Or.inl ⟨by omega, ex4_90_1⟩
          | exact Or.inr ⟨by omega, ex4_90_1⟩
        · refine jv_iload rfl rfl rfl ?_
          refine jv_callS1 rfl rfl rfl (Nat.le_of_ble_eq_true rfl) (mo_bits (by omega) ?_)
          show jV _ _ jm_p_X10_beating _ 78 [some (.inr (.inr 94)), some (.inl s), some (.inl q), some (.inl y), some (.inl f), some (.inl w), some (.inl m49)] [.inl (jb_n w)] μ70
          refine jv_iload rfl rfl rfl ?_
          refine jv_callS1 rfl rfl rfl (Nat.le_of_ble_eq_true rfl) (mo_bits (by omega) ?_)
          show jV _ _ jm_p_X10_beating _ 80 [some (.inr (.inr 94)), some (.inl s), some (.inl q), some (.inl y), some (.inl f), some (.inl w), some (.inl m49)] [.inl (jb_n f), .inl (jb_n w)] μ70
          refine jv_icmp_ge rfl rfl rfl (fun c80 => ?_) (fun c80 => ?_)
          · refine jv_iconst rfl rfl ?_
            refine jv_istoreK (L2 := [some (.inr (.inr 94)), some (.inl s), some (.inl q), some (.inl y), some (.inl f), some (.inl w), some (.inl 0)]) rfl rfl rfl ?_
            refine jv_iload rfl rfl rfl ?_
            refine jv_if_eqT rfl rfl (by decide) ?_
            refine jv_iload rfl rfl rfl ?_
            refine jv_istore (fun x => [some (.inr (.inr 94)), some (.inl s), some (.inl q), some (.inl y), some (.inl x), some (.inl w), some (.inl 0)]) rfl rfl (fun _ => rfl) (fun x4_90_2 ex4_90_2 => ?_)
            refine jv_iinc (fun x => [some (.inr (.inr 94)), some (.inl s), some (.inl q), some (.inl y), some (.inl x4_90_2), some (.inl x), some (.inl 0)]) rfl rfl rfl ⟨by omega, by omega⟩ (fun _ => rfl) (fun x5_91_2 ex5_91_2 => ?_)
            refine jv_goto rfl rfl ?_
            refine ih x4_90_2 x5_91_2 _ μ70 (by omega) (by omega) (by omega) ?_ (jr_tr (jr_tr (jr_tr hf fμ46) f49) fμ70)
            rw [ex5_91_2, show (w + 1).toNat = w.toNat + 1 by omega]
            refine ⟨f, hs, ?_⟩
            rw [show ((w.toNat : Nat) : Int) = w by omega]
            first
            | exact Or.inl ⟨by omega, ex4_90_2⟩
            | exact Or.inr ⟨by omega, ex4_90_2⟩
          · refine jv_iconst rfl rfl ?_
            refine jv_goto rfl rfl ?_
            refine jv_istoreK (L2 := [some (.inr (.inr 94)), some (.inl s), some (.inl q), some (.inl y), some (.inl f), some (.inl w), some (.inl 1)]) rfl rfl rfl ?_
            refine jv_iload rfl rfl rfl ?_
            refine jv_if_eqF rfl rfl (by decide) ?_
            refine jv_iload rfl rfl rfl ?_
            refine jv_goto rfl rfl ?_
            refine jv_istore (fun x => [some (.inr (.inr 94)), some (.inl s), some (.inl q), some (.inl y), some (.inl x), some (.inl w), some (.inl 1)]) rfl rfl (fun _ => rfl) (fun x4_90_3 ex4_90_3 => ?_)
            refine jv_iinc (fun x => [some (.inr (.inr 94)), some (.inl s), some (.inl q), some (.inl y), some (.inl x4_90_3), some (.inl x), some (.inl 1)]) rfl rfl rfl ⟨by omega, by omega⟩ (fun _ => rfl) (fun x5_91_3 ex5_91_3 => ?_)
            refine jv_goto rfl rfl ?_
            refine ih x4_90_3 x5_91_3 _ μ70 (by omega) (by omega) (by omega) ?_ (jr_tr (jr_tr (jr_tr hf fμ46) f49) fμ70)
            rw [ex5_91_3, show (w + 1).toNat = w.toNat + 1 by omega]
            refine ⟨f, hs, ?_⟩
            rw [show ((w.toNat : Nat) : Int) = w by omega]
            first
            | exact Or.inl ⟨by omega, ex4_90_3⟩
            | exact Or.inr ⟨by omega, ex4_90_3⟩
set_option maxRecDepth 10000 in
theorem cl_allComers {X : jm_X} {d : Nat} {Q : jv_P} {μ : jm_M}  (hs : 1 ≤ jm_shl 1 (μ 7 3) ∧ jm_shl 1 (μ 7 3) ≤ 64) (k : Q [.inl (jm_shl 1 (μ 7 3) - 1)] μ) : cV X (d + 1) 42 [.inr (.inr 7)] μ Q := by
  refine jv_enter (d := d + 0) jm_p_X4_allComers [some (.inr (.inr 7))] rfl rfl rfl (Nat.le_of_ble_eq_true rfl) rfl rfl ?_
  refine jv_iconst rfl rfl ?_
  refine jv_aload_n rfl rfl rfl (by decide) ?_
  refine jv_geti rfl rfl rfl ⟨by decide, rfl⟩ (by decide) ?_
  refine jv_ishl rfl rfl ?_
  refine jv_iconst rfl rfl ?_
  refine jv_isub rfl rfl ⟨by omega, by omega⟩ ?_
  refine jv_ireturn rfl (Or.inl rfl) ?_
  exact k
set_option maxRecDepth 10000 in
set_option maxHeartbeats 1000000 in
theorem pr_beating {X : jm_X} {s : Int} {q : Int} {y : Int} (r_s : jm_r s) (r_q : jm_r q) (r_y : jm_r y) : jp X 109 195 [.inl s, .inl q, .inl y] := by
  intro μ hI
  obtain ⟨⟨hit, hlan⟩, ⟨ht0, ht1, ht2⟩, ⟨hr0, hr1, hr2⟩, ⟨hst, hfa⟩, htown, hidle, himg, hpast⟩ := id hI
  obtain ⟨hwf, hcf, hkd, hmat, hrel, hh01, hhot, hnc⟩ := id htown
  obtain ⟨⟨r0, r1, r2, r3⟩, rm, rz, rc⟩ := id hrel
  obtain ⟨w0, w1, w2, w3, w4, w6, w7, w8⟩ := id hwf
  have hcf9 : jt_cf (μ 95) 99990 := fun c a b => by have q := hcf c a b; omega
  have hHμ := jH_of hI
  have hsh : jm_shl 1 (μ 7 3) = jm_shl 1 (μ 95 1) := by rw [r3]
  have hs6 := jb_shl6 w1.1 w1.2
  have hs4 := jb_shl4 w0.1 w0.2
  refine jv_enter (d := 199) jm_p_X9_beating [some (.inr (.inr 0)), some (.inl s), some (.inl q), some (.inl y), none] rfl rfl rfl (Nat.le_of_ble_eq_true rfl) rfl rfl ?_
  refine jv_aload_n rfl rfl rfl (by decide) ?_
  refine jv_callV0 rfl rfl rfl rfl ⟨by decide, rfl⟩ (Nat.le_of_ble_eq_true rfl) (cl_noHotel (fun b1 => ?_) (fun b1 => ?_))
  · show jV _ _ jm_p_X9_beating _ 2 [some (.inr (.inr 0)), some (.inl s), some (.inl q), some (.inl y), none] [.inl 1] μ
    refine jv_if_eqF rfl rfl (by decide) ?_
    refine jv_ldc rfl rfl ?_
    refine jv_ireturn rfl (Or.inl rfl) ?_
    refine ⟨_, rfl, ?_⟩
    have fc : jf μ μ := jf_id μ
    have hUμ : jU μ (μ 95) := jU_jf fc
    have q94μ : μ 94 1 = μ 94 1 := by rw [fc 94 (by omega)]
    refine jv_enter (d := 199) jm_p_X10_beating [some (.inr (.inr 94)), some (.inl s), some (.inl q), some (.inl y), none, none, none] rfl rfl rfl (Nat.le_of_ble_eq_true rfl) rfl rfl ?_
    refine jv_aload_n rfl rfl rfl (by decide) ?_
    refine jv_geti rfl rfl rfl ⟨by decide, rfl⟩ (by decide) ?_
    refine jv_if_ne rfl rfl rfl (fun c2 => ?_) (fun c2 => ?_)
    · first
      | (exfalso; omega)
      | skip
        refine jv_iload_n rfl rfl rfl ?_
        refine jv_i2l rfl rfl ?_
        refine jv_lconst rfl rfl ?_
        refine jv_iconst rfl rfl ?_
        refine jv_aload_n rfl rfl rfl (by decide) ?_
        refine jv_getr (w := 95) rfl rfl rfl ⟨by decide, rfl⟩ rfl rfl ?_
        refine jv_iconst rfl rfl ?_
        refine jv_iaload rfl rfl (by decide) rfl ⟨by omega, by omega⟩ ?_
        refine jv_ishl rfl rfl ?_
        refine jv_iconst rfl rfl ?_
        refine jv_isub rfl rfl ⟨by omega, by omega⟩ ?_
        refine jv_i2l rfl rfl ?_
        refine jv_callS3 rfl rfl rfl (Nat.le_of_ble_eq_true rfl) (mo_in (fun b17 => ?_) (fun b17 => ?_))
        · first
          | (exfalso; omega)
          | skip
            show jV _ _ jm_p_X10_beating _ 18 [some (.inr (.inr 94)), some (.inl s), some (.inl q), some (.inl y), none, none, none] [.inl 1] μ
            refine jv_if_eqF rfl rfl (by decide) ?_
            refine jv_iload_n rfl rfl rfl ?_
            refine jv_i2l rfl rfl ?_
            refine jv_lconst rfl rfl ?_
            refine jv_ldc2_w rfl rfl ?_
            refine jv_callS3 rfl rfl rfl (Nat.le_of_ble_eq_true rfl) (mo_in (fun b23 => ?_) (fun b23 => ?_))
            · first
              | (exfalso; omega)
              | skip
                show jV _ _ jm_p_X10_beating _ 24 [some (.inr (.inr 94)), some (.inl s), some (.inl q), some (.inl y), none, none, none] [.inl 1] μ
                refine jv_if_eqF rfl rfl (by decide) ?_
                refine jv_iload_n rfl rfl rfl ?_
                refine jv_i2l rfl rfl ?_
                refine jv_lconst rfl rfl ?_
                refine jv_lconst rfl rfl ?_
                refine jv_callS3 rfl rfl rfl (Nat.le_of_ble_eq_true rfl) (mo_in (fun b29 => ?_) (fun b29 => ?_))
                · first
                  | (exfalso; omega)
                  | skip
                    show jV _ _ jm_p_X10_beating _ 30 [some (.inr (.inr 94)), some (.inl s), some (.inl q), some (.inl y), none, none, none] [.inl 1] μ
                    refine jv_if_neT rfl rfl (by decide) ?_
                    refine jv_ldc rfl rfl ?_
                    refine jv_istoreK (L2 := [some (.inr (.inr 94)), some (.inl s), some (.inl q), some (.inl y), some (.inl (-1000000)), none, none]) rfl rfl rfl ?_
                    refine jv_iconst rfl rfl ?_
                    refine jv_istoreK (L2 := [some (.inr (.inr 94)), some (.inl s), some (.inl q), some (.inl y), some (.inl (-1000000)), some (.inl 0), none]) rfl rfl rfl ?_
                    exfalso; omega
                · first
                  | (exfalso; omega)
                  | skip
                    show jV _ _ jm_p_X10_beating _ 30 [some (.inr (.inr 94)), some (.inl s), some (.inl q), some (.inl y), none, none, none] [.inl 0] μ
                    refine jv_if_neF rfl rfl (by decide) ?_
                    refine jv_ldc rfl rfl ?_
                    refine jv_ireturn rfl (Or.inl rfl) ?_
                    exact ⟨jv_one (by omega), jI_pair hI fc (jr_id _)⟩
            · first
              | (exfalso; omega)
              | skip
                show jV _ _ jm_p_X10_beating _ 24 [some (.inr (.inr 94)), some (.inl s), some (.inl q), some (.inl y), none, none, none] [.inl 0] μ
                refine jv_if_eqT rfl rfl (by decide) ?_
                refine jv_ldc rfl rfl ?_
                refine jv_ireturn rfl (Or.inl rfl) ?_
                exact ⟨jv_one (by omega), jI_pair hI fc (jr_id _)⟩
        · first
          | (exfalso; omega)
          | skip
            show jV _ _ jm_p_X10_beating _ 18 [some (.inr (.inr 94)), some (.inl s), some (.inl q), some (.inl y), none, none, none] [.inl 0] μ
            refine jv_if_eqT rfl rfl (by decide) ?_
            refine jv_ldc rfl rfl ?_
            refine jv_ireturn rfl (Or.inl rfl) ?_
            exact ⟨jv_one (by omega), jI_pair hI fc (jr_id _)⟩
    · first
      | (exfalso; omega)
      | skip
        refine jv_ldc rfl rfl ?_
        refine jv_ireturn rfl (Or.inl rfl) ?_
        exact ⟨jv_one (by omega), jI_pair hI fc (jr_id _)⟩
  · show jV _ _ jm_p_X9_beating _ 2 [some (.inr (.inr 0)), some (.inl s), some (.inl q), some (.inl y), none] [.inl 0] μ
    refine jv_if_eqT rfl rfl (by decide) ?_
    refine jv_iload_n rfl rfl rfl ?_
    refine jv_if_lt rfl rfl rfl (fun c6 => ?_) (fun c6 => ?_)
    · refine jv_ldc rfl rfl ?_
      refine jv_ireturn rfl (Or.inl rfl) ?_
      refine ⟨_, rfl, ?_⟩
      have fc : jf μ μ := jf_id μ
      have hUμ : jU μ (μ 95) := jU_jf fc
      have q94μ : μ 94 1 = μ 94 1 := by rw [fc 94 (by omega)]
      refine jv_enter (d := 199) jm_p_X10_beating [some (.inr (.inr 94)), some (.inl s), some (.inl q), some (.inl y), none, none, none] rfl rfl rfl (Nat.le_of_ble_eq_true rfl) rfl rfl ?_
      refine jv_aload_n rfl rfl rfl (by decide) ?_
      refine jv_geti rfl rfl rfl ⟨by decide, rfl⟩ (by decide) ?_
      refine jv_if_ne rfl rfl rfl (fun c2 => ?_) (fun c2 => ?_)
      · first
        | (exfalso; omega)
        | skip
          refine jv_iload_n rfl rfl rfl ?_
          refine jv_i2l rfl rfl ?_
          refine jv_lconst rfl rfl ?_
          refine jv_iconst rfl rfl ?_
          refine jv_aload_n rfl rfl rfl (by decide) ?_
          refine jv_getr (w := 95) rfl rfl rfl ⟨by decide, rfl⟩ rfl rfl ?_
          refine jv_iconst rfl rfl ?_
          refine jv_iaload rfl rfl (by decide) rfl ⟨by omega, by omega⟩ ?_
          refine jv_ishl rfl rfl ?_
          refine jv_iconst rfl rfl ?_
          refine jv_isub rfl rfl ⟨by omega, by omega⟩ ?_
          refine jv_i2l rfl rfl ?_
          refine jv_callS3 rfl rfl rfl (Nat.le_of_ble_eq_true rfl) (mo_in (fun b17 => ?_) (fun b17 => ?_))
          · first
            | (exfalso; omega)
            | skip
              show jV _ _ jm_p_X10_beating _ 18 [some (.inr (.inr 94)), some (.inl s), some (.inl q), some (.inl y), none, none, none] [.inl 1] μ
              refine jv_if_eqF rfl rfl (by decide) ?_
              refine jv_iload_n rfl rfl rfl ?_
              refine jv_i2l rfl rfl ?_
              refine jv_lconst rfl rfl ?_
              refine jv_ldc2_w rfl rfl ?_
              refine jv_callS3 rfl rfl rfl (Nat.le_of_ble_eq_true rfl) (mo_in (fun b23 => ?_) (fun b23 => ?_))
              · first
                | (exfalso; omega)
                | skip
                  show jV _ _ jm_p_X10_beating _ 24 [some (.inr (.inr 94)), some (.inl s), some (.inl q), some (.inl y), none, none, none] [.inl 1] μ
                  refine jv_if_eqF rfl rfl (by decide) ?_
                  refine jv_iload_n rfl rfl rfl ?_
                  refine jv_i2l rfl rfl ?_
                  refine jv_lconst rfl rfl ?_
                  refine jv_lconst rfl rfl ?_
                  refine jv_callS3 rfl rfl rfl (Nat.le_of_ble_eq_true rfl) (mo_in (fun b29 => ?_) (fun b29 => ?_))
                  · first
                    | (exfalso; omega)
                    | skip
                      show jV _ _ jm_p_X10_beating _ 30 [some (.inr (.inr 94)), some (.inl s), some (.inl q), some (.inl y), none, none, none] [.inl 1] μ
                      refine jv_if_neT rfl rfl (by decide) ?_
                      refine jv_ldc rfl rfl ?_
                      refine jv_istoreK (L2 := [some (.inr (.inr 94)), some (.inl s), some (.inl q), some (.inl y), some (.inl (-1000000)), none, none]) rfl rfl rfl ?_
                      refine jv_iconst rfl rfl ?_
                      refine jv_istoreK (L2 := [some (.inr (.inr 94)), some (.inl s), some (.inl q), some (.inl y), some (.inl (-1000000)), some (.inl 0), none]) rfl rfl rfl ?_
                      exfalso; omega
                  · first
                    | (exfalso; omega)
                    | skip
                      show jV _ _ jm_p_X10_beating _ 30 [some (.inr (.inr 94)), some (.inl s), some (.inl q), some (.inl y), none, none, none] [.inl 0] μ
                      refine jv_if_neF rfl rfl (by decide) ?_
                      refine jv_ldc rfl rfl ?_
                      refine jv_ireturn rfl (Or.inl rfl) ?_
                      exact ⟨jv_one (by omega), jI_pair hI fc (jr_id _)⟩
              · first
                | (exfalso; omega)
                | skip
                  show jV _ _ jm_p_X10_beating _ 24 [some (.inr (.inr 94)), some (.inl s), some (.inl q), some (.inl y), none, none, none] [.inl 0] μ
                  refine jv_if_eqT rfl rfl (by decide) ?_
                  refine jv_ldc rfl rfl ?_
                  refine jv_ireturn rfl (Or.inl rfl) ?_
                  exact ⟨jv_one (by omega), jI_pair hI fc (jr_id _)⟩
          · first
            | (exfalso; omega)
            | skip
              show jV _ _ jm_p_X10_beating _ 18 [some (.inr (.inr 94)), some (.inl s), some (.inl q), some (.inl y), none, none, none] [.inl 0] μ
              refine jv_if_eqT rfl rfl (by decide) ?_
              refine jv_ldc rfl rfl ?_
              refine jv_ireturn rfl (Or.inl rfl) ?_
              exact ⟨jv_one (by omega), jI_pair hI fc (jr_id _)⟩
      · first
        | (exfalso; omega)
        | skip
          refine jv_ldc rfl rfl ?_
          refine jv_ireturn rfl (Or.inl rfl) ?_
          exact ⟨jv_one (by omega), jI_pair hI fc (jr_id _)⟩
    · refine jv_iload_n rfl rfl rfl ?_
      refine jv_aload_n rfl rfl rfl (by decide) ?_
      refine jv_getr (w := 7) rfl rfl rfl ⟨by decide, rfl⟩ rfl rfl ?_
      refine jv_callV0 rfl rfl rfl rfl ⟨by decide, rfl⟩ (Nat.le_of_ble_eq_true rfl) (cl_allComers (by omega) ?_)
      show jV _ _ jm_p_X9_beating _ 11 [some (.inr (.inr 0)), some (.inl s), some (.inl q), some (.inl y), none] [.inl (jm_shl 1 (μ 7 3) - 1), .inl s] μ
      refine jv_icmp_gt rfl rfl rfl (fun c11 => ?_) (fun c11 => ?_)
      · refine jv_ldc rfl rfl ?_
        refine jv_ireturn rfl (Or.inl rfl) ?_
        refine ⟨_, rfl, ?_⟩
        have fc : jf μ μ := jf_id μ
        have hUμ : jU μ (μ 95) := jU_jf fc
        have q94μ : μ 94 1 = μ 94 1 := by rw [fc 94 (by omega)]
        refine jv_enter (d := 199) jm_p_X10_beating [some (.inr (.inr 94)), some (.inl s), some (.inl q), some (.inl y), none, none, none] rfl rfl rfl (Nat.le_of_ble_eq_true rfl) rfl rfl ?_
        refine jv_aload_n rfl rfl rfl (by decide) ?_
        refine jv_geti rfl rfl rfl ⟨by decide, rfl⟩ (by decide) ?_
        refine jv_if_ne rfl rfl rfl (fun c2 => ?_) (fun c2 => ?_)
        · first
          | (exfalso; omega)
          | skip
            refine jv_iload_n rfl rfl rfl ?_
            refine jv_i2l rfl rfl ?_
            refine jv_lconst rfl rfl ?_
            refine jv_iconst rfl rfl ?_
            refine jv_aload_n rfl rfl rfl (by decide) ?_
            refine jv_getr (w := 95) rfl rfl rfl ⟨by decide, rfl⟩ rfl rfl ?_
            refine jv_iconst rfl rfl ?_
            refine jv_iaload rfl rfl (by decide) rfl ⟨by omega, by omega⟩ ?_
            refine jv_ishl rfl rfl ?_
            refine jv_iconst rfl rfl ?_
            refine jv_isub rfl rfl ⟨by omega, by omega⟩ ?_
            refine jv_i2l rfl rfl ?_
            refine jv_callS3 rfl rfl rfl (Nat.le_of_ble_eq_true rfl) (mo_in (fun b17 => ?_) (fun b17 => ?_))
            · first
              | (exfalso; omega)
              | skip
                show jV _ _ jm_p_X10_beating _ 18 [some (.inr (.inr 94)), some (.inl s), some (.inl q), some (.inl y), none, none, none] [.inl 1] μ
                refine jv_if_eqF rfl rfl (by decide) ?_
                refine jv_iload_n rfl rfl rfl ?_
                refine jv_i2l rfl rfl ?_
                refine jv_lconst rfl rfl ?_
                refine jv_ldc2_w rfl rfl ?_
                refine jv_callS3 rfl rfl rfl (Nat.le_of_ble_eq_true rfl) (mo_in (fun b23 => ?_) (fun b23 => ?_))
                · first
                  | (exfalso; omega)
                  | skip
                    show jV _ _ jm_p_X10_beating _ 24 [some (.inr (.inr 94)), some (.inl s), some (.inl q), some (.inl y), none, none, none] [.inl 1] μ
                    refine jv_if_eqF rfl rfl (by decide) ?_
                    refine jv_iload_n rfl rfl rfl ?_
                    refine jv_i2l rfl rfl ?_
                    refine jv_lconst rfl rfl ?_
                    refine jv_lconst rfl rfl ?_
                    refine jv_callS3 rfl rfl rfl (Nat.le_of_ble_eq_true rfl) (mo_in (fun b29 => ?_) (fun b29 => ?_))
                    · first
                      | (exfalso; omega)
                      | skip
                        show jV _ _ jm_p_X10_beating _ 30 [some (.inr (.inr 94)), some (.inl s), some (.inl q), some (.inl y), none, none, none] [.inl 1] μ
                        refine jv_if_neT rfl rfl (by decide) ?_
                        refine jv_ldc rfl rfl ?_
                        refine jv_istoreK (L2 := [some (.inr (.inr 94)), some (.inl s), some (.inl q), some (.inl y), some (.inl (-1000000)), none, none]) rfl rfl rfl ?_
                        refine jv_iconst rfl rfl ?_
                        refine jv_istoreK (L2 := [some (.inr (.inr 94)), some (.inl s), some (.inl q), some (.inl y), some (.inl (-1000000)), some (.inl 0), none]) rfl rfl rfl ?_
                        exfalso; omega
                    · first
                      | (exfalso; omega)
                      | skip
                        show jV _ _ jm_p_X10_beating _ 30 [some (.inr (.inr 94)), some (.inl s), some (.inl q), some (.inl y), none, none, none] [.inl 0] μ
                        refine jv_if_neF rfl rfl (by decide) ?_
                        refine jv_ldc rfl rfl ?_
                        refine jv_ireturn rfl (Or.inl rfl) ?_
                        exact ⟨jv_one (by omega), jI_pair hI fc (jr_id _)⟩
                · first
                  | (exfalso; omega)
                  | skip
                    show jV _ _ jm_p_X10_beating _ 24 [some (.inr (.inr 94)), some (.inl s), some (.inl q), some (.inl y), none, none, none] [.inl 0] μ
                    refine jv_if_eqT rfl rfl (by decide) ?_
                    refine jv_ldc rfl rfl ?_
                    refine jv_ireturn rfl (Or.inl rfl) ?_
                    exact ⟨jv_one (by omega), jI_pair hI fc (jr_id _)⟩
            · first
              | (exfalso; omega)
              | skip
                show jV _ _ jm_p_X10_beating _ 18 [some (.inr (.inr 94)), some (.inl s), some (.inl q), some (.inl y), none, none, none] [.inl 0] μ
                refine jv_if_eqT rfl rfl (by decide) ?_
                refine jv_ldc rfl rfl ?_
                refine jv_ireturn rfl (Or.inl rfl) ?_
                exact ⟨jv_one (by omega), jI_pair hI fc (jr_id _)⟩
        · first
          | (exfalso; omega)
          | skip
            refine jv_ldc rfl rfl ?_
            refine jv_ireturn rfl (Or.inl rfl) ?_
            exact ⟨jv_one (by omega), jI_pair hI fc (jr_id _)⟩
      · refine jv_iload_n rfl rfl rfl ?_
        refine jv_callS1 rfl rfl rfl (Nat.le_of_ble_eq_true rfl) (cl_noCarried (fun b13 => ?_) (fun b13 => ?_))
        · show jV _ _ jm_p_X9_beating _ 14 [some (.inr (.inr 0)), some (.inl s), some (.inl q), some (.inl y), none] [.inl 1] μ
          refine jv_if_neT rfl rfl (by decide) ?_
          refine jv_ldc rfl rfl ?_
          refine jv_ireturn rfl (Or.inl rfl) ?_
          refine ⟨_, rfl, ?_⟩
          have fc : jf μ μ := jf_id μ
          have hUμ : jU μ (μ 95) := jU_jf fc
          have q94μ : μ 94 1 = μ 94 1 := by rw [fc 94 (by omega)]
          refine jv_enter (d := 199) jm_p_X10_beating [some (.inr (.inr 94)), some (.inl s), some (.inl q), some (.inl y), none, none, none] rfl rfl rfl (Nat.le_of_ble_eq_true rfl) rfl rfl ?_
          refine jv_aload_n rfl rfl rfl (by decide) ?_
          refine jv_geti rfl rfl rfl ⟨by decide, rfl⟩ (by decide) ?_
          refine jv_if_ne rfl rfl rfl (fun c2 => ?_) (fun c2 => ?_)
          · first
            | (exfalso; omega)
            | skip
              refine jv_iload_n rfl rfl rfl ?_
              refine jv_i2l rfl rfl ?_
              refine jv_lconst rfl rfl ?_
              refine jv_iconst rfl rfl ?_
              refine jv_aload_n rfl rfl rfl (by decide) ?_
              refine jv_getr (w := 95) rfl rfl rfl ⟨by decide, rfl⟩ rfl rfl ?_
              refine jv_iconst rfl rfl ?_
              refine jv_iaload rfl rfl (by decide) rfl ⟨by omega, by omega⟩ ?_
              refine jv_ishl rfl rfl ?_
              refine jv_iconst rfl rfl ?_
              refine jv_isub rfl rfl ⟨by omega, by omega⟩ ?_
              refine jv_i2l rfl rfl ?_
              refine jv_callS3 rfl rfl rfl (Nat.le_of_ble_eq_true rfl) (mo_in (fun b17 => ?_) (fun b17 => ?_))
              · first
                | (exfalso; omega)
                | skip
                  show jV _ _ jm_p_X10_beating _ 18 [some (.inr (.inr 94)), some (.inl s), some (.inl q), some (.inl y), none, none, none] [.inl 1] μ
                  refine jv_if_eqF rfl rfl (by decide) ?_
                  refine jv_iload_n rfl rfl rfl ?_
                  refine jv_i2l rfl rfl ?_
                  refine jv_lconst rfl rfl ?_
                  refine jv_ldc2_w rfl rfl ?_
                  refine jv_callS3 rfl rfl rfl (Nat.le_of_ble_eq_true rfl) (mo_in (fun b23 => ?_) (fun b23 => ?_))
                  · first
                    | (exfalso; omega)
                    | skip
                      show jV _ _ jm_p_X10_beating _ 24 [some (.inr (.inr 94)), some (.inl s), some (.inl q), some (.inl y), none, none, none] [.inl 1] μ
                      refine jv_if_eqF rfl rfl (by decide) ?_
                      refine jv_iload_n rfl rfl rfl ?_
                      refine jv_i2l rfl rfl ?_
                      refine jv_lconst rfl rfl ?_
                      refine jv_lconst rfl rfl ?_
                      refine jv_callS3 rfl rfl rfl (Nat.le_of_ble_eq_true rfl) (mo_in (fun b29 => ?_) (fun b29 => ?_))
                      · first
                        | (exfalso; omega)
                        | skip
                          show jV _ _ jm_p_X10_beating _ 30 [some (.inr (.inr 94)), some (.inl s), some (.inl q), some (.inl y), none, none, none] [.inl 1] μ
                          refine jv_if_neT rfl rfl (by decide) ?_
                          refine jv_ldc rfl rfl ?_
                          refine jv_istoreK (L2 := [some (.inr (.inr 94)), some (.inl s), some (.inl q), some (.inl y), some (.inl (-1000000)), none, none]) rfl rfl rfl ?_
                          refine jv_iconst rfl rfl ?_
                          refine jv_istoreK (L2 := [some (.inr (.inr 94)), some (.inl s), some (.inl q), some (.inl y), some (.inl (-1000000)), some (.inl 0), none]) rfl rfl rfl ?_
                          exfalso; omega
                      · first
                        | (exfalso; omega)
                        | skip
                          show jV _ _ jm_p_X10_beating _ 30 [some (.inr (.inr 94)), some (.inl s), some (.inl q), some (.inl y), none, none, none] [.inl 0] μ
                          refine jv_if_neF rfl rfl (by decide) ?_
                          refine jv_ldc rfl rfl ?_
                          refine jv_ireturn rfl (Or.inl rfl) ?_
                          exact ⟨jv_one (by omega), jI_pair hI fc (jr_id _)⟩
                  · first
                    | (exfalso; omega)
                    | skip
                      show jV _ _ jm_p_X10_beating _ 24 [some (.inr (.inr 94)), some (.inl s), some (.inl q), some (.inl y), none, none, none] [.inl 0] μ
                      refine jv_if_eqT rfl rfl (by decide) ?_
                      refine jv_ldc rfl rfl ?_
                      refine jv_ireturn rfl (Or.inl rfl) ?_
                      exact ⟨jv_one (by omega), jI_pair hI fc (jr_id _)⟩
              · first
                | (exfalso; omega)
                | skip
                  show jV _ _ jm_p_X10_beating _ 18 [some (.inr (.inr 94)), some (.inl s), some (.inl q), some (.inl y), none, none, none] [.inl 0] μ
                  refine jv_if_eqT rfl rfl (by decide) ?_
                  refine jv_ldc rfl rfl ?_
                  refine jv_ireturn rfl (Or.inl rfl) ?_
                  exact ⟨jv_one (by omega), jI_pair hI fc (jr_id _)⟩
          · first
            | (exfalso; omega)
            | skip
              refine jv_ldc rfl rfl ?_
              refine jv_ireturn rfl (Or.inl rfl) ?_
              exact ⟨jv_one (by omega), jI_pair hI fc (jr_id _)⟩
        · show jV _ _ jm_p_X9_beating _ 14 [some (.inr (.inr 0)), some (.inl s), some (.inl q), some (.inl y), none] [.inl 0] μ
          refine jv_if_neF rfl rfl (by decide) ?_
          refine jv_iload_n rfl rfl rfl ?_
          refine jv_callS1 rfl rfl rfl (Nat.le_of_ble_eq_true rfl) (cl_neither (fun b16 => ?_) (fun b16 => ?_))
          · show jV _ _ jm_p_X9_beating _ 17 [some (.inr (.inr 0)), some (.inl s), some (.inl q), some (.inl y), none] [.inl 1] μ
            refine jv_if_eqF rfl rfl (by decide) ?_
            refine jv_ldc rfl rfl ?_
            refine jv_ireturn rfl (Or.inl rfl) ?_
            refine ⟨_, rfl, ?_⟩
            have fc : jf μ μ := jf_id μ
            have hUμ : jU μ (μ 95) := jU_jf fc
            have q94μ : μ 94 1 = μ 94 1 := by rw [fc 94 (by omega)]
            refine jv_enter (d := 199) jm_p_X10_beating [some (.inr (.inr 94)), some (.inl s), some (.inl q), some (.inl y), none, none, none] rfl rfl rfl (Nat.le_of_ble_eq_true rfl) rfl rfl ?_
            refine jv_aload_n rfl rfl rfl (by decide) ?_
            refine jv_geti rfl rfl rfl ⟨by decide, rfl⟩ (by decide) ?_
            refine jv_if_ne rfl rfl rfl (fun c2 => ?_) (fun c2 => ?_)
            · first
              | (exfalso; omega)
              | skip
                refine jv_iload_n rfl rfl rfl ?_
                refine jv_i2l rfl rfl ?_
                refine jv_lconst rfl rfl ?_
                refine jv_iconst rfl rfl ?_
                refine jv_aload_n rfl rfl rfl (by decide) ?_
                refine jv_getr (w := 95) rfl rfl rfl ⟨by decide, rfl⟩ rfl rfl ?_
                refine jv_iconst rfl rfl ?_
                refine jv_iaload rfl rfl (by decide) rfl ⟨by omega, by omega⟩ ?_
                refine jv_ishl rfl rfl ?_
                refine jv_iconst rfl rfl ?_
                refine jv_isub rfl rfl ⟨by omega, by omega⟩ ?_
                refine jv_i2l rfl rfl ?_
                refine jv_callS3 rfl rfl rfl (Nat.le_of_ble_eq_true rfl) (mo_in (fun b17 => ?_) (fun b17 => ?_))
                · first
                  | (exfalso; omega)
                  | skip
                    show jV _ _ jm_p_X10_beating _ 18 [some (.inr (.inr 94)), some (.inl s), some (.inl q), some (.inl y), none, none, none] [.inl 1] μ
                    refine jv_if_eqF rfl rfl (by decide) ?_
                    refine jv_iload_n rfl rfl rfl ?_
                    refine jv_i2l rfl rfl ?_
                    refine jv_lconst rfl rfl ?_
                    refine jv_ldc2_w rfl rfl ?_
                    refine jv_callS3 rfl rfl rfl (Nat.le_of_ble_eq_true rfl) (mo_in (fun b23 => ?_) (fun b23 => ?_))
                    · first
                      | (exfalso; omega)
                      | skip
                        show jV _ _ jm_p_X10_beating _ 24 [some (.inr (.inr 94)), some (.inl s), some (.inl q), some (.inl y), none, none, none] [.inl 1] μ
                        refine jv_if_eqF rfl rfl (by decide) ?_
                        refine jv_iload_n rfl rfl rfl ?_
                        refine jv_i2l rfl rfl ?_
                        refine jv_lconst rfl rfl ?_
                        refine jv_lconst rfl rfl ?_
                        refine jv_callS3 rfl rfl rfl (Nat.le_of_ble_eq_true rfl) (mo_in (fun b29 => ?_) (fun b29 => ?_))
                        · first
                          | (exfalso; omega)
                          | skip
                            show jV _ _ jm_p_X10_beating _ 30 [some (.inr (.inr 94)), some (.inl s), some (.inl q), some (.inl y), none, none, none] [.inl 1] μ
                            refine jv_if_neT rfl rfl (by decide) ?_
                            refine jv_ldc rfl rfl ?_
                            refine jv_istoreK (L2 := [some (.inr (.inr 94)), some (.inl s), some (.inl q), some (.inl y), some (.inl (-1000000)), none, none]) rfl rfl rfl ?_
                            refine jv_iconst rfl rfl ?_
                            refine jv_istoreK (L2 := [some (.inr (.inr 94)), some (.inl s), some (.inl q), some (.inl y), some (.inl (-1000000)), some (.inl 0), none]) rfl rfl rfl ?_
                            exfalso; omega
                        · first
                          | (exfalso; omega)
                          | skip
                            show jV _ _ jm_p_X10_beating _ 30 [some (.inr (.inr 94)), some (.inl s), some (.inl q), some (.inl y), none, none, none] [.inl 0] μ
                            refine jv_if_neF rfl rfl (by decide) ?_
                            refine jv_ldc rfl rfl ?_
                            refine jv_ireturn rfl (Or.inl rfl) ?_
                            exact ⟨jv_one (by omega), jI_pair hI fc (jr_id _)⟩
                    · first
                      | (exfalso; omega)
                      | skip
                        show jV _ _ jm_p_X10_beating _ 24 [some (.inr (.inr 94)), some (.inl s), some (.inl q), some (.inl y), none, none, none] [.inl 0] μ
                        refine jv_if_eqT rfl rfl (by decide) ?_
                        refine jv_ldc rfl rfl ?_
                        refine jv_ireturn rfl (Or.inl rfl) ?_
                        exact ⟨jv_one (by omega), jI_pair hI fc (jr_id _)⟩
                · first
                  | (exfalso; omega)
                  | skip
                    show jV _ _ jm_p_X10_beating _ 18 [some (.inr (.inr 94)), some (.inl s), some (.inl q), some (.inl y), none, none, none] [.inl 0] μ
                    refine jv_if_eqT rfl rfl (by decide) ?_
                    refine jv_ldc rfl rfl ?_
                    refine jv_ireturn rfl (Or.inl rfl) ?_
                    exact ⟨jv_one (by omega), jI_pair hI fc (jr_id _)⟩
            · first
              | (exfalso; omega)
              | skip
                refine jv_ldc rfl rfl ?_
                refine jv_ireturn rfl (Or.inl rfl) ?_
                exact ⟨jv_one (by omega), jI_pair hI fc (jr_id _)⟩
          · show jV _ _ jm_p_X9_beating _ 17 [some (.inr (.inr 0)), some (.inl s), some (.inl q), some (.inl y), none] [.inl 0] μ
            refine jv_if_eqT rfl rfl (by decide) ?_
            refine jv_aload_n rfl rfl rfl (by decide) ?_
            refine jv_getr (w := 49) rfl rfl rfl ⟨by decide, rfl⟩ rfl rfl ?_
            refine jv_aload_n rfl rfl rfl (by decide) ?_
            refine jv_getr (w := 7) rfl rfl rfl ⟨by decide, rfl⟩ rfl rfl ?_
            refine jv_iload_n rfl rfl rfl ?_
            refine jv_iload_n rfl rfl rfl ?_
            refine jv_callV3 rfl rfl rfl rfl ⟨by decide, rfl⟩ (Nat.le_of_ble_eq_true rfl) (cl_fewest hHμ hcf rfl (jb_shl4 (by omega) (by omega)) (fun sμ26 μ26 bμ26 fμ26 => ?_))
            show jV _ _ jm_p_X9_beating _ 27 [some (.inr (.inr 0)), some (.inl s), some (.inl q), some (.inl y), none] [.inl sμ26] μ26
            have rμ26 := jbest_r _ _ bμ26
            refine jv_istore (fun x => [some (.inr (.inr 0)), some (.inl s), some (.inl q), some (.inl y), some (.inl x)]) rfl rfl (fun _ => rfl) (fun x4_27 ex4_27 => ?_)
            refine jv_iload rfl rfl rfl ?_
            refine jv_ldc rfl rfl ?_
            refine jv_icmp_eq rfl rfl rfl (fun c30 => ?_) (fun c30 => ?_)
            · refine jv_iload rfl rfl rfl ?_
              refine jv_goto rfl rfl ?_
              refine jv_ireturn rfl (Or.inl rfl) ?_
              refine ⟨_, rfl, ?_⟩
              have fc : jf μ μ26 := fμ26
              have hUμ26 : jU μ26 (μ 95) := jU_jf fc
              have u0μ26 := hUμ26 0 (by decide) (by decide)
              have u1μ26 := hUμ26 1 (by decide) (by decide)
              have q94μ26 : μ26 94 1 = μ 94 1 := by rw [fc 94 (by omega)]
              have hsm : jm_shl 1 (μ26 95 1) = jm_shl 1 (μ 95 1) := by rw [u1μ26]
              refine jv_enter (d := 199) jm_p_X10_beating [some (.inr (.inr 94)), some (.inl s), some (.inl q), some (.inl y), none, none, none] rfl rfl rfl (Nat.le_of_ble_eq_true rfl) rfl rfl ?_
              refine jv_aload_n rfl rfl rfl (by decide) ?_
              refine jv_geti rfl rfl rfl ⟨by decide, rfl⟩ (by decide) ?_
              refine jv_if_ne rfl rfl rfl (fun c2 => ?_) (fun c2 => ?_)
              · first
                | (exfalso; omega)
                | skip
                  refine jv_iload_n rfl rfl rfl ?_
                  refine jv_i2l rfl rfl ?_
                  refine jv_lconst rfl rfl ?_
                  refine jv_iconst rfl rfl ?_
                  refine jv_aload_n rfl rfl rfl (by decide) ?_
                  refine jv_getr (w := 95) rfl rfl rfl ⟨by decide, rfl⟩ rfl rfl ?_
                  refine jv_iconst rfl rfl ?_
                  refine jv_iaload rfl rfl (by decide) rfl ⟨by omega, by omega⟩ ?_
                  refine jv_ishl rfl rfl ?_
                  refine jv_iconst rfl rfl ?_
                  refine jv_isub rfl rfl ⟨by omega, by omega⟩ ?_
                  refine jv_i2l rfl rfl ?_
                  refine jv_callS3 rfl rfl rfl (Nat.le_of_ble_eq_true rfl) (mo_in (fun b17 => ?_) (fun b17 => ?_))
                  · first
                    | (exfalso; omega)
                    | skip
                      show jV _ _ jm_p_X10_beating _ 18 [some (.inr (.inr 94)), some (.inl s), some (.inl q), some (.inl y), none, none, none] [.inl 1] μ26
                      refine jv_if_eqF rfl rfl (by decide) ?_
                      refine jv_iload_n rfl rfl rfl ?_
                      refine jv_i2l rfl rfl ?_
                      refine jv_lconst rfl rfl ?_
                      refine jv_ldc2_w rfl rfl ?_
                      refine jv_callS3 rfl rfl rfl (Nat.le_of_ble_eq_true rfl) (mo_in (fun b23 => ?_) (fun b23 => ?_))
                      · first
                        | (exfalso; omega)
                        | skip
                          show jV _ _ jm_p_X10_beating _ 24 [some (.inr (.inr 94)), some (.inl s), some (.inl q), some (.inl y), none, none, none] [.inl 1] μ26
                          refine jv_if_eqF rfl rfl (by decide) ?_
                          refine jv_iload_n rfl rfl rfl ?_
                          refine jv_i2l rfl rfl ?_
                          refine jv_lconst rfl rfl ?_
                          refine jv_lconst rfl rfl ?_
                          refine jv_callS3 rfl rfl rfl (Nat.le_of_ble_eq_true rfl) (mo_in (fun b29 => ?_) (fun b29 => ?_))
                          · first
                            | (exfalso; omega)
                            | skip
                              show jV _ _ jm_p_X10_beating _ 30 [some (.inr (.inr 94)), some (.inl s), some (.inl q), some (.inl y), none, none, none] [.inl 1] μ26
                              refine jv_if_neT rfl rfl (by decide) ?_
                              refine jv_ldc rfl rfl ?_
                              refine jv_istoreK (L2 := [some (.inr (.inr 94)), some (.inl s), some (.inl q), some (.inl y), some (.inl (-1000000)), none, none]) rfl rfl rfl ?_
                              refine jv_iconst rfl rfl ?_
                              refine jv_istoreK (L2 := [some (.inr (.inr 94)), some (.inl s), some (.inl q), some (.inl y), some (.inl (-1000000)), some (.inl 0), none]) rfl rfl rfl ?_
                              refine mo_beating_l hUμ26 hwf hcf9 (by omega) rfl hs4 (fun f2 w2 o6 μz bz fz => ?_) 20 (-1000000) 0 _ μ26 (by omega) (by omega) (by omega) rfl (jr_id _)
                              have ef : f2 = sμ26 := jbest_one _ _ _ bz bμ26
                              have eg : jb_n f2 = jb_n x4_27 := by rw [ef, ex4_27]
                              refine jv_iload rfl rfl rfl ?_
                              refine jv_ldc rfl rfl ?_
                              refine jv_icmp_eq rfl rfl rfl (fun c95 => ?_) (fun c95 => ?_)
                              · first
                                | (exfalso; omega)
                                | skip
                                  refine jv_iload rfl rfl rfl ?_
                                  refine jv_goto rfl rfl ?_
                                  refine jv_ireturn rfl (Or.inl rfl) ?_
                                  exact ⟨jv_one (by omega), jI_pair hI fc fz⟩
                              · first
                                | (exfalso; omega)
                                | skip
                                  refine jv_iload_n rfl rfl rfl ?_
                                  refine jv_iconst rfl rfl ?_
                                  refine jv_icmp_ne rfl rfl rfl (fun c98 => ?_) (fun c98 => ?_)
                                  · first
                                    | (exfalso; omega)
                                    | skip
                                      refine jv_iload rfl rfl rfl ?_
                                      refine jv_callS1 rfl rfl rfl (Nat.le_of_ble_eq_true rfl) (mo_bits (by omega) ?_)
                                      show jV _ _ jm_p_X10_beating _ 103 [some (.inr (.inr 94)), some (.inl s), some (.inl q), some (.inl y), some (.inl f2), some (.inl w2), o6] [.inl (jb_n f2)] μz
                                      refine jv_ireturn rfl (Or.inl rfl) ?_
                                      exact ⟨jv_one (by omega), jI_pair hI fc fz⟩
                                  · first
                                    | (exfalso; omega)
                                    | skip
                                      refine jv_iload rfl rfl rfl ?_
                                      refine jv_goto rfl rfl ?_
                                      refine jv_ireturn rfl (Or.inl rfl) ?_
                                      exact ⟨jv_one (by omega), jI_pair hI fc fz⟩
                          · first
                            | (exfalso; omega)
                            | skip
                              show jV _ _ jm_p_X10_beating _ 30 [some (.inr (.inr 94)), some (.inl s), some (.inl q), some (.inl y), none, none, none] [.inl 0] μ26
                              refine jv_if_neF rfl rfl (by decide) ?_
                              refine jv_ldc rfl rfl ?_
                              refine jv_ireturn rfl (Or.inl rfl) ?_
                              exact ⟨jv_one (by omega), jI_pair hI fc (jr_id _)⟩
                      · first
                        | (exfalso; omega)
                        | skip
                          show jV _ _ jm_p_X10_beating _ 24 [some (.inr (.inr 94)), some (.inl s), some (.inl q), some (.inl y), none, none, none] [.inl 0] μ26
                          refine jv_if_eqT rfl rfl (by decide) ?_
                          refine jv_ldc rfl rfl ?_
                          refine jv_ireturn rfl (Or.inl rfl) ?_
                          exact ⟨jv_one (by omega), jI_pair hI fc (jr_id _)⟩
                  · first
                    | (exfalso; omega)
                    | skip
                      show jV _ _ jm_p_X10_beating _ 18 [some (.inr (.inr 94)), some (.inl s), some (.inl q), some (.inl y), none, none, none] [.inl 0] μ26
                      refine jv_if_eqT rfl rfl (by decide) ?_
                      refine jv_ldc rfl rfl ?_
                      refine jv_ireturn rfl (Or.inl rfl) ?_
                      exact ⟨jv_one (by omega), jI_pair hI fc (jr_id _)⟩
              · first
                | (exfalso; omega)
                | skip
                  refine jv_ldc rfl rfl ?_
                  refine jv_ireturn rfl (Or.inl rfl) ?_
                  exact ⟨jv_one (by omega), jI_pair hI fc (jr_id _)⟩
            · refine jv_iload_n rfl rfl rfl ?_
              refine jv_iconst rfl rfl ?_
              refine jv_icmp_ne rfl rfl rfl (fun c33 => ?_) (fun c33 => ?_)
              · refine jv_iload rfl rfl rfl ?_
                refine jv_callS1 rfl rfl rfl (Nat.le_of_ble_eq_true rfl) (cl_bitCount (by omega) ?_)
                show jV _ _ jm_p_X9_beating _ 38 [some (.inr (.inr 0)), some (.inl s), some (.inl q), some (.inl y), some (.inl x4_27)] [.inl (jb_n x4_27)] μ26
                refine jv_ireturn rfl (Or.inl rfl) ?_
                refine ⟨_, rfl, ?_⟩
                have fc : jf μ μ26 := fμ26
                have hUμ26 : jU μ26 (μ 95) := jU_jf fc
                have u0μ26 := hUμ26 0 (by decide) (by decide)
                have u1μ26 := hUμ26 1 (by decide) (by decide)
                have q94μ26 : μ26 94 1 = μ 94 1 := by rw [fc 94 (by omega)]
                have hsm : jm_shl 1 (μ26 95 1) = jm_shl 1 (μ 95 1) := by rw [u1μ26]
                refine jv_enter (d := 199) jm_p_X10_beating [some (.inr (.inr 94)), some (.inl s), some (.inl q), some (.inl y), none, none, none] rfl rfl rfl (Nat.le_of_ble_eq_true rfl) rfl rfl ?_
                refine jv_aload_n rfl rfl rfl (by decide) ?_
                refine jv_geti rfl rfl rfl ⟨by decide, rfl⟩ (by decide) ?_
                refine jv_if_ne rfl rfl rfl (fun c2 => ?_) (fun c2 => ?_)
                · first
                  | (exfalso; omega)
                  | skip
                    refine jv_iload_n rfl rfl rfl ?_
                    refine jv_i2l rfl rfl ?_
                    refine jv_lconst rfl rfl ?_
                    refine jv_iconst rfl rfl ?_
                    refine jv_aload_n rfl rfl rfl (by decide) ?_
                    refine jv_getr (w := 95) rfl rfl rfl ⟨by decide, rfl⟩ rfl rfl ?_
                    refine jv_iconst rfl rfl ?_
                    refine jv_iaload rfl rfl (by decide) rfl ⟨by omega, by omega⟩ ?_
                    refine jv_ishl rfl rfl ?_
                    refine jv_iconst rfl rfl ?_
                    refine jv_isub rfl rfl ⟨by omega, by omega⟩ ?_
                    refine jv_i2l rfl rfl ?_
                    refine jv_callS3 rfl rfl rfl (Nat.le_of_ble_eq_true rfl) (mo_in (fun b17 => ?_) (fun b17 => ?_))
                    · first
                      | (exfalso; omega)
                      | skip
                        show jV _ _ jm_p_X10_beating _ 18 [some (.inr (.inr 94)), some (.inl s), some (.inl q), some (.inl y), none, none, none] [.inl 1] μ26
                        refine jv_if_eqF rfl rfl (by decide) ?_
                        refine jv_iload_n rfl rfl rfl ?_
                        refine jv_i2l rfl rfl ?_
                        refine jv_lconst rfl rfl ?_
                        refine jv_ldc2_w rfl rfl ?_
                        refine jv_callS3 rfl rfl rfl (Nat.le_of_ble_eq_true rfl) (mo_in (fun b23 => ?_) (fun b23 => ?_))
                        · first
                          | (exfalso; omega)
                          | skip
                            show jV _ _ jm_p_X10_beating _ 24 [some (.inr (.inr 94)), some (.inl s), some (.inl q), some (.inl y), none, none, none] [.inl 1] μ26
                            refine jv_if_eqF rfl rfl (by decide) ?_
                            refine jv_iload_n rfl rfl rfl ?_
                            refine jv_i2l rfl rfl ?_
                            refine jv_lconst rfl rfl ?_
                            refine jv_lconst rfl rfl ?_
                            refine jv_callS3 rfl rfl rfl (Nat.le_of_ble_eq_true rfl) (mo_in (fun b29 => ?_) (fun b29 => ?_))
                            · first
                              | (exfalso; omega)
                              | skip
                                show jV _ _ jm_p_X10_beating _ 30 [some (.inr (.inr 94)), some (.inl s), some (.inl q), some (.inl y), none, none, none] [.inl 1] μ26
                                refine jv_if_neT rfl rfl (by decide) ?_
                                refine jv_ldc rfl rfl ?_
                                refine jv_istoreK (L2 := [some (.inr (.inr 94)), some (.inl s), some (.inl q), some (.inl y), some (.inl (-1000000)), none, none]) rfl rfl rfl ?_
                                refine jv_iconst rfl rfl ?_
                                refine jv_istoreK (L2 := [some (.inr (.inr 94)), some (.inl s), some (.inl q), some (.inl y), some (.inl (-1000000)), some (.inl 0), none]) rfl rfl rfl ?_
                                refine mo_beating_l hUμ26 hwf hcf9 (by omega) rfl hs4 (fun f2 w2 o6 μz bz fz => ?_) 20 (-1000000) 0 _ μ26 (by omega) (by omega) (by omega) rfl (jr_id _)
                                have ef : f2 = sμ26 := jbest_one _ _ _ bz bμ26
                                have eg : jb_n f2 = jb_n x4_27 := by rw [ef, ex4_27]
                                refine jv_iload rfl rfl rfl ?_
                                refine jv_ldc rfl rfl ?_
                                refine jv_icmp_eq rfl rfl rfl (fun c95 => ?_) (fun c95 => ?_)
                                · first
                                  | (exfalso; omega)
                                  | skip
                                    refine jv_iload rfl rfl rfl ?_
                                    refine jv_goto rfl rfl ?_
                                    refine jv_ireturn rfl (Or.inl rfl) ?_
                                    exact ⟨jv_one (by omega), jI_pair hI fc fz⟩
                                · first
                                  | (exfalso; omega)
                                  | skip
                                    refine jv_iload_n rfl rfl rfl ?_
                                    refine jv_iconst rfl rfl ?_
                                    refine jv_icmp_ne rfl rfl rfl (fun c98 => ?_) (fun c98 => ?_)
                                    · first
                                      | (exfalso; omega)
                                      | skip
                                        refine jv_iload rfl rfl rfl ?_
                                        refine jv_callS1 rfl rfl rfl (Nat.le_of_ble_eq_true rfl) (mo_bits (by omega) ?_)
                                        show jV _ _ jm_p_X10_beating _ 103 [some (.inr (.inr 94)), some (.inl s), some (.inl q), some (.inl y), some (.inl f2), some (.inl w2), o6] [.inl (jb_n f2)] μz
                                        refine jv_ireturn rfl (Or.inl rfl) ?_
                                        exact ⟨jv_one (by omega), jI_pair hI fc fz⟩
                                    · first
                                      | (exfalso; omega)
                                      | skip
                                        refine jv_iload rfl rfl rfl ?_
                                        refine jv_goto rfl rfl ?_
                                        refine jv_ireturn rfl (Or.inl rfl) ?_
                                        exact ⟨jv_one (by omega), jI_pair hI fc fz⟩
                            · first
                              | (exfalso; omega)
                              | skip
                                show jV _ _ jm_p_X10_beating _ 30 [some (.inr (.inr 94)), some (.inl s), some (.inl q), some (.inl y), none, none, none] [.inl 0] μ26
                                refine jv_if_neF rfl rfl (by decide) ?_
                                refine jv_ldc rfl rfl ?_
                                refine jv_ireturn rfl (Or.inl rfl) ?_
                                exact ⟨jv_one (by omega), jI_pair hI fc (jr_id _)⟩
                        · first
                          | (exfalso; omega)
                          | skip
                            show jV _ _ jm_p_X10_beating _ 24 [some (.inr (.inr 94)), some (.inl s), some (.inl q), some (.inl y), none, none, none] [.inl 0] μ26
                            refine jv_if_eqT rfl rfl (by decide) ?_
                            refine jv_ldc rfl rfl ?_
                            refine jv_ireturn rfl (Or.inl rfl) ?_
                            exact ⟨jv_one (by omega), jI_pair hI fc (jr_id _)⟩
                    · first
                      | (exfalso; omega)
                      | skip
                        show jV _ _ jm_p_X10_beating _ 18 [some (.inr (.inr 94)), some (.inl s), some (.inl q), some (.inl y), none, none, none] [.inl 0] μ26
                        refine jv_if_eqT rfl rfl (by decide) ?_
                        refine jv_ldc rfl rfl ?_
                        refine jv_ireturn rfl (Or.inl rfl) ?_
                        exact ⟨jv_one (by omega), jI_pair hI fc (jr_id _)⟩
                · first
                  | (exfalso; omega)
                  | skip
                    refine jv_ldc rfl rfl ?_
                    refine jv_ireturn rfl (Or.inl rfl) ?_
                    exact ⟨jv_one (by omega), jI_pair hI fc (jr_id _)⟩
              · refine jv_iload rfl rfl rfl ?_
                refine jv_goto rfl rfl ?_
                refine jv_ireturn rfl (Or.inl rfl) ?_
                refine ⟨_, rfl, ?_⟩
                have fc : jf μ μ26 := fμ26
                have hUμ26 : jU μ26 (μ 95) := jU_jf fc
                have u0μ26 := hUμ26 0 (by decide) (by decide)
                have u1μ26 := hUμ26 1 (by decide) (by decide)
                have q94μ26 : μ26 94 1 = μ 94 1 := by rw [fc 94 (by omega)]
                have hsm : jm_shl 1 (μ26 95 1) = jm_shl 1 (μ 95 1) := by rw [u1μ26]
                refine jv_enter (d := 199) jm_p_X10_beating [some (.inr (.inr 94)), some (.inl s), some (.inl q), some (.inl y), none, none, none] rfl rfl rfl (Nat.le_of_ble_eq_true rfl) rfl rfl ?_
                refine jv_aload_n rfl rfl rfl (by decide) ?_
                refine jv_geti rfl rfl rfl ⟨by decide, rfl⟩ (by decide) ?_
                refine jv_if_ne rfl rfl rfl (fun c2 => ?_) (fun c2 => ?_)
                · first
                  | (exfalso; omega)
                  | skip
                    refine jv_iload_n rfl rfl rfl ?_
                    refine jv_i2l rfl rfl ?_
                    refine jv_lconst rfl rfl ?_
                    refine jv_iconst rfl rfl ?_
                    refine jv_aload_n rfl rfl rfl (by decide) ?_
                    refine jv_getr (w := 95) rfl rfl rfl ⟨by decide, rfl⟩ rfl rfl ?_
                    refine jv_iconst rfl rfl ?_
                    refine jv_iaload rfl rfl (by decide) rfl ⟨by omega, by omega⟩ ?_
                    refine jv_ishl rfl rfl ?_
                    refine jv_iconst rfl rfl ?_
                    refine jv_isub rfl rfl ⟨by omega, by omega⟩ ?_
                    refine jv_i2l rfl rfl ?_
                    refine jv_callS3 rfl rfl rfl (Nat.le_of_ble_eq_true rfl) (mo_in (fun b17 => ?_) (fun b17 => ?_))
                    · first
                      | (exfalso; omega)
                      | skip
                        show jV _ _ jm_p_X10_beating _ 18 [some (.inr (.inr 94)), some (.inl s), some (.inl q), some (.inl y), none, none, none] [.inl 1] μ26
                        refine jv_if_eqF rfl rfl (by decide) ?_
                        refine jv_iload_n rfl rfl rfl ?_
                        refine jv_i2l rfl rfl ?_
                        refine jv_lconst rfl rfl ?_
                        refine jv_ldc2_w rfl rfl ?_
                        refine jv_callS3 rfl rfl rfl (Nat.le_of_ble_eq_true rfl) (mo_in (fun b23 => ?_) (fun b23 => ?_))
                        · first
                          | (exfalso; omega)
                          | skip
                            show jV _ _ jm_p_X10_beating _ 24 [some (.inr (.inr 94)), some (.inl s), some (.inl q), some (.inl y), none, none, none] [.inl 1] μ26
                            refine jv_if_eqF rfl rfl (by decide) ?_
                            refine jv_iload_n rfl rfl rfl ?_
                            refine jv_i2l rfl rfl ?_
                            refine jv_lconst rfl rfl ?_
                            refine jv_lconst rfl rfl ?_
                            refine jv_callS3 rfl rfl rfl (Nat.le_of_ble_eq_true rfl) (mo_in (fun b29 => ?_) (fun b29 => ?_))
                            · first
                              | (exfalso; omega)
                              | skip
                                show jV _ _ jm_p_X10_beating _ 30 [some (.inr (.inr 94)), some (.inl s), some (.inl q), some (.inl y), none, none, none] [.inl 1] μ26
                                refine jv_if_neT rfl rfl (by decide) ?_
                                refine jv_ldc rfl rfl ?_
                                refine jv_istoreK (L2 := [some (.inr (.inr 94)), some (.inl s), some (.inl q), some (.inl y), some (.inl (-1000000)), none, none]) rfl rfl rfl ?_
                                refine jv_iconst rfl rfl ?_
                                refine jv_istoreK (L2 := [some (.inr (.inr 94)), some (.inl s), some (.inl q), some (.inl y), some (.inl (-1000000)), some (.inl 0), none]) rfl rfl rfl ?_
                                refine mo_beating_l hUμ26 hwf hcf9 (by omega) rfl hs4 (fun f2 w2 o6 μz bz fz => ?_) 20 (-1000000) 0 _ μ26 (by omega) (by omega) (by omega) rfl (jr_id _)
                                have ef : f2 = sμ26 := jbest_one _ _ _ bz bμ26
                                have eg : jb_n f2 = jb_n x4_27 := by rw [ef, ex4_27]
                                refine jv_iload rfl rfl rfl ?_
                                refine jv_ldc rfl rfl ?_
                                refine jv_icmp_eq rfl rfl rfl (fun c95 => ?_) (fun c95 => ?_)
                                · first
                                  | (exfalso; omega)
                                  | skip
                                    refine jv_iload rfl rfl rfl ?_
                                    refine jv_goto rfl rfl ?_
                                    refine jv_ireturn rfl (Or.inl rfl) ?_
                                    exact ⟨jv_one (by omega), jI_pair hI fc fz⟩
                                · first
                                  | (exfalso; omega)
                                  | skip
                                    refine jv_iload_n rfl rfl rfl ?_
                                    refine jv_iconst rfl rfl ?_
                                    refine jv_icmp_ne rfl rfl rfl (fun c98 => ?_) (fun c98 => ?_)
                                    · first
                                      | (exfalso; omega)
                                      | skip
                                        refine jv_iload rfl rfl rfl ?_
                                        refine jv_callS1 rfl rfl rfl (Nat.le_of_ble_eq_true rfl) (mo_bits (by omega) ?_)
                                        show jV _ _ jm_p_X10_beating _ 103 [some (.inr (.inr 94)), some (.inl s), some (.inl q), some (.inl y), some (.inl f2), some (.inl w2), o6] [.inl (jb_n f2)] μz
                                        refine jv_ireturn rfl (Or.inl rfl) ?_
                                        exact ⟨jv_one (by omega), jI_pair hI fc fz⟩
                                    · first
                                      | (exfalso; omega)
                                      | skip
                                        refine jv_iload rfl rfl rfl ?_
                                        refine jv_goto rfl rfl ?_
                                        refine jv_ireturn rfl (Or.inl rfl) ?_
                                        exact ⟨jv_one (by omega), jI_pair hI fc fz⟩
                            · first
                              | (exfalso; omega)
                              | skip
                                show jV _ _ jm_p_X10_beating _ 30 [some (.inr (.inr 94)), some (.inl s), some (.inl q), some (.inl y), none, none, none] [.inl 0] μ26
                                refine jv_if_neF rfl rfl (by decide) ?_
                                refine jv_ldc rfl rfl ?_
                                refine jv_ireturn rfl (Or.inl rfl) ?_
                                exact ⟨jv_one (by omega), jI_pair hI fc (jr_id _)⟩
                        · first
                          | (exfalso; omega)
                          | skip
                            show jV _ _ jm_p_X10_beating _ 24 [some (.inr (.inr 94)), some (.inl s), some (.inl q), some (.inl y), none, none, none] [.inl 0] μ26
                            refine jv_if_eqT rfl rfl (by decide) ?_
                            refine jv_ldc rfl rfl ?_
                            refine jv_ireturn rfl (Or.inl rfl) ?_
                            exact ⟨jv_one (by omega), jI_pair hI fc (jr_id _)⟩
                    · first
                      | (exfalso; omega)
                      | skip
                        show jV _ _ jm_p_X10_beating _ 18 [some (.inr (.inr 94)), some (.inl s), some (.inl q), some (.inl y), none, none, none] [.inl 0] μ26
                        refine jv_if_eqT rfl rfl (by decide) ?_
                        refine jv_ldc rfl rfl ?_
                        refine jv_ireturn rfl (Or.inl rfl) ?_
                        exact ⟨jv_one (by omega), jI_pair hI fc (jr_id _)⟩
                · first
                  | (exfalso; omega)
                  | skip
                    refine jv_ldc rfl rfl ?_
                    refine jv_ireturn rfl (Or.inl rfl) ?_
                    exact ⟨jv_one (by omega), jI_pair hI fc (jr_id _)⟩
