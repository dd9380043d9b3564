theorem kX9_rowAt_9 (l : Launch) (D : Dm) (a2 : Int32) (σ : Mm) (hv : vp_in a2 3) : Ct l yX9_rowAt cX9_rowAt 2 (some (.array .int)) 1 D [.ref (D.2.1 9), .int a2] σ (some (.ref (D.2.1 (10 + a2.toNatClampNeg))), σ) := by
  refine ct_of (by decide +kernel) (Nat.le_of_ble_eq_true rfl) (fun X F => ?_)
  have F : Fx X l 2 D cX9_rowAt RX9 1 (some (.array .int)) := F
  show JJ X 2 D σ 0 [(0, .ref (D.2.1 9)), (1, .int a2)] [] (QQ X D (some (.ref (D.2.1 (10 + a2.toNatClampNeg))), σ))
  refine j_aload_n F dX9_rowAt_0 1 rfl 0 rfl ?_
  refine j_ifnull F dX9_rowAt_1 4 rfl ?_
  refine j_iload_n F dX9_rowAt_4 5 rfl 1 rfl ?_
  refine j_if_lt F dX9_rowAt_5 20 (by decide) 8 rfl (fun c_5 => ?_) (fun c_5 => absurd (vin0 hv) c_5)
  refine j_iload_n F dX9_rowAt_8 9 rfl 1 rfl ?_
  refine j_aload_n F dX9_rowAt_9 10 rfl 0 rfl ?_
  refine j_alen3 F dX9_rowAt_10 11 rfl (by decide) sh9 ?_
  refine j_icmp_ge F dX9_rowAt_11 20 (by decide) 14 rfl (fun c_11 => ?_) (fun c_11 => absurd (vinN hv (by decide)) c_11)
  refine j_aload_n F dX9_rowAt_14 15 rfl 0 rfl ?_
  refine j_iload_n F dX9_rowAt_15 16 rfl 1 rfl ?_
  refine j_qald2 F dX9_rowAt_16 17 rfl (by decide) sh9 hv rfl ?_
  refine j_goto F dX9_rowAt_17 21 (by decide) ?_
  exact j_ret_ar F dX9_rowAt_21 rfl rfl rfl
theorem kX9_rowAt_9n (l : Launch) (D : Dm) (a2 : Int32) (k : Nat) (σ : Mm) (h : a2 = nI k) (hk : k < 3) : Ct l yX9_rowAt cX9_rowAt 2 (some (.array .int)) 1 D [.ref (D.2.1 9), .int a2] σ (some (.ref (D.2.1 (10 + k))), σ) := by
  have e : a2.toNatClampNeg = k := by rw [h]; exact nI_clamp (by omega)
  have g := kX9_rowAt_9 l D a2 σ (by rw [h]; exact vp_in_nI hk (by omega))
  rw [e] at g
  exact g
theorem kX9_rowAt_13 (l : Launch) (D : Dm) (a2 : Int32) (σ : Mm) (hv : vp_in a2 3) : Ct l yX9_rowAt cX9_rowAt 2 (some (.array .int)) 1 D [.ref (D.2.1 13), .int a2] σ (some (.ref (D.2.1 (14 + a2.toNatClampNeg))), σ) := by
  refine ct_of (by decide +kernel) (Nat.le_of_ble_eq_true rfl) (fun X F => ?_)
  have F : Fx X l 2 D cX9_rowAt RX9 1 (some (.array .int)) := F
  show JJ X 2 D σ 0 [(0, .ref (D.2.1 13)), (1, .int a2)] [] (QQ X D (some (.ref (D.2.1 (14 + a2.toNatClampNeg))), σ))
  refine j_aload_n F dX9_rowAt_0 1 rfl 0 rfl ?_
  refine j_ifnull F dX9_rowAt_1 4 rfl ?_
  refine j_iload_n F dX9_rowAt_4 5 rfl 1 rfl ?_
  refine j_if_lt F dX9_rowAt_5 20 (by decide) 8 rfl (fun c_5 => ?_) (fun c_5 => absurd (vin0 hv) c_5)
  refine j_iload_n F dX9_rowAt_8 9 rfl 1 rfl ?_
  refine j_aload_n F dX9_rowAt_9 10 rfl 0 rfl ?_
  refine j_alen3 F dX9_rowAt_10 11 rfl (by decide) sh13 ?_
  refine j_icmp_ge F dX9_rowAt_11 20 (by decide) 14 rfl (fun c_11 => ?_) (fun c_11 => absurd (vinN hv (by decide)) c_11)
  refine j_aload_n F dX9_rowAt_14 15 rfl 0 rfl ?_
  refine j_iload_n F dX9_rowAt_15 16 rfl 1 rfl ?_
  refine j_qald2 F dX9_rowAt_16 17 rfl (by decide) sh13 hv rfl ?_
  refine j_goto F dX9_rowAt_17 21 (by decide) ?_
  exact j_ret_ar F dX9_rowAt_21 rfl rfl rfl
theorem kX9_rowAt_13n (l : Launch) (D : Dm) (a2 : Int32) (k : Nat) (σ : Mm) (h : a2 = nI k) (hk : k < 3) : Ct l yX9_rowAt cX9_rowAt 2 (some (.array .int)) 1 D [.ref (D.2.1 13), .int a2] σ (some (.ref (D.2.1 (14 + k))), σ) := by
  have e : a2.toNatClampNeg = k := by rw [h]; exact nI_clamp (by omega)
  have g := kX9_rowAt_13 l D a2 σ (by rw [h]; exact vp_in_nI hk (by omega))
  rw [e] at g
  exact g
