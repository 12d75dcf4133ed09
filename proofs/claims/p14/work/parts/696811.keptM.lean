theorem w_fX12_draws_168 {σ0 : zSt} : ∀ (n : Nat) (y0 : zSt) (y1 : Int32) (y2 : Int32) (y3 : Int32), zKeM σ0 y0 → zpc (fX12_draws_168 n y0 y1 y2 y3) (fun r => zKeM σ0 (r)) := by
  intro n
  induction n with
  | zero => intro y0 y1 y2 y3 h; exact zpc_none
  | succ n ih => intro y0 y1 y2 y3 h; exact w_fX12_draws_168_body ih h
theorem w_fX12_draws_123_body {σ0 : zSt} {k123 : zSt → Int32 → Int32 → Int32 → Option (zSt)} (hk123 : ∀ (y0 : zSt) (y1 : Int32) (y2 : Int32) (y3 : Int32), zKeM σ0 y0 → zpc (k123 y0 y1 y2 y3) (fun r => zKeM σ0 (r))) {σ : zSt} {x1 : Int32} {x2 : Int32} {x3 : Int32} (h : zKeM σ0 σ) : zpc (fX12_draws_123_body k123 σ x1 x2 x3) (fun r => zKeM σ0 (r)) := by
  unfold fX12_draws_123_body
  exact zpc_if (fun _ => w_fX12_draws_168 _ _ _ _ _ h) (fun _ => zpc_ck (zpc_if (fun _ => w_fX12_draws_160 hk123 h) (fun _ => zpc_ck (zpc_if (fun _ => zpc_ck (zpc_ck (zpc_bs (zKeM.wi h (by decide)) (fun σ21 hσ21 => w_fX12_draws_160 hk123 hσ21)))) (fun _ => w_fX12_draws_160 hk123 h)))))
theorem w_fX12_draws_123 {σ0 : zSt} : ∀ (n : Nat) (y0 : zSt) (y1 : Int32) (y2 : Int32) (y3 : Int32), zKeM σ0 y0 → zpc (fX12_draws_123 n y0 y1 y2 y3) (fun r => zKeM σ0 (r)) := by
  intro n
  induction n with
  | zero => intro y0 y1 y2 y3 h; exact zpc_none
  | succ n ih => intro y0 y1 y2 y3 h; exact w_fX12_draws_123_body ih h
theorem w_fX12_draws_97_body {σ0 : zSt} {k97 : zSt → Int32 → Int32 → Int32 → Option (zSt)} (hk97 : ∀ (y0 : zSt) (y1 : Int32) (y2 : Int32) (y3 : Int32), zKeM σ0 y0 → zpc (k97 y0 y1 y2 y3) (fun r => zKeM σ0 (r))) {σ : zSt} {x1 : Int32} {x2 : Int32} {x3 : Int32} (h : zKeM σ0 σ) : zpc (fX12_draws_97_body k97 σ x1 x2 x3) (fun r => zKeM σ0 (r)) := by
  unfold fX12_draws_97_body
  exact zpc_if (fun _ => zpc_bu (w_fX12_sprites h) (fun σ22 hσ22 => w_fX12_draws_123 _ _ _ _ _ hσ22)) (fun _ => zpc_bu (w_fX12_tile h) (fun σ23 hσ23 => zpc_bv (fun v24 _ => hk97 _ _ _ _ hσ23)))
theorem w_fX12_draws_97 {σ0 : zSt} : ∀ (n : Nat) (y0 : zSt) (y1 : Int32) (y2 : Int32) (y3 : Int32), zKeM σ0 y0 → zpc (fX12_draws_97 n y0 y1 y2 y3) (fun r => zKeM σ0 (r)) := by
  intro n
  induction n with
  | zero => intro y0 y1 y2 y3 h; exact zpc_none
  | succ n ih => intro y0 y1 y2 y3 h; exact w_fX12_draws_97_body ih h
theorem w_fX12_draws_35_body {σ0 : zSt} {k35 : zSt → Int32 → Int32 → Int32 → Option (zSt)} (hk35 : ∀ (y0 : zSt) (y1 : Int32) (y2 : Int32) (y3 : Int32), zKeM σ0 y0 → zpc (k35 y0 y1 y2 y3) (fun r => zKeM σ0 (r))) {σ : zSt} {x1 : Int32} {x2 : Int32} {x3 : Int32} (h : zKeM σ0 σ) : zpc (fX12_draws_35_body k35 σ x1 x2 x3) (fun r => zKeM σ0 (r)) := by
  unfold fX12_draws_35_body
  exact zpc_if (fun _ => zpc_bi (w_fX12_bit h) (fun σ25 v26 hσ25 => zpc_if (fun _ => zpc_bi (w_fX12_mode hσ25) (fun σ27 v28 hσ27 => zpc_if (fun _ => w_fX12_draws_97 _ _ _ _ _ hσ27) (fun _ => w_fX12_draws_200 hσ27))) (fun _ => w_fX12_draws_200 hσ25))) (fun _ => zpc_ck (zpc_bs (zKeM.wi h (by decide)) (fun σ29 hσ29 => zpc_ck (zpc_bs (zKeM.wi hσ29 (by decide)) (fun σ30 hσ30 => zpc_ck (zpc_bs (zKeM.wi hσ30 (by decide)) (fun σ31 hσ31 => zpc_ck (zpc_bs (zKeM.wi hσ31 (by decide)) (fun σ32 hσ32 => zpc_bv (fun v33 _ => hk35 _ _ _ _ hσ32))))))))))
theorem w_fX12_draws_35 {σ0 : zSt} : ∀ (n : Nat) (y0 : zSt) (y1 : Int32) (y2 : Int32) (y3 : Int32), zKeM σ0 y0 → zpc (fX12_draws_35 n y0 y1 y2 y3) (fun r => zKeM σ0 (r)) := by
  intro n
  induction n with
  | zero => intro y0 y1 y2 y3 h; exact zpc_none
  | succ n ih => intro y0 y1 y2 y3 h; exact w_fX12_draws_35_body ih h
theorem w_fX12_draws_32 {σ0 : zSt} {σ : zSt} {x1 : Int32} {s0 : Int32} (h : zKeM σ0 σ) : zpc (fX12_draws_32 σ x1 s0) (fun r => zKeM σ0 (r)) := by
  unfold fX12_draws_32
  exact w_fX12_draws_35 _ _ _ _ _ h
theorem w_fX12_draws {σ0 : zSt} {σ : zSt} {x1 : Int32} (h : zKeM σ0 σ) : zpc (fX12_draws σ x1) (fun r => zKeM σ0 (r)) := by
  unfold fX12_draws
  exact zpc_bi (w_fX12_mode h) (fun σ34 v35 hσ34 => zpc_if (fun _ => zpc_bi (w_fX12_reg hσ34) (fun σ38 v39 hσ38 => zpc_ck (w_fX12_draws_32 hσ38))) (fun _ => zpc_bi (w_fX12_reg hσ34) (fun σ36 v37 hσ36 => zpc_ck (w_fX12_draws_32 hσ36))))
theorem w_fX12_planned_113 {σ0 : zSt} {σ : zSt} (h : zKeM σ0 σ) : zpc (fX12_planned_113 σ) (fun r => zKeM σ0 (r)) := by
  unfold fX12_planned_113
  exact zpc_some h
theorem w_fX12_planned_68_body {σ0 : zSt} {k0 : zSt → Option (zSt)} (hk0 : ∀ (y0 : zSt), zKeM σ0 y0 → zpc (k0 y0) (fun r => zKeM σ0 (r))) {k68 : zSt → Int32 → Option (zSt)} (hk68 : ∀ (y0 : zSt) (y1 : Int32), zKeM σ0 y0 → zpc (k68 y0 y1) (fun r => zKeM σ0 (r))) {σ : zSt} {x1 : Int32} (h : zKeM σ0 σ) : zpc (fX12_planned_68_body k0 k68 σ x1) (fun r => zKeM σ0 (r)) := by
  unfold fX12_planned_68_body
  exact zpc_ck (zpc_if (fun _ => hk0 _ h) (fun _ => zpc_ck (zpc_ck (zpc_bs (zKeM.wi h (by decide)) (fun σ1 hσ1 => zpc_bv (fun v2 _ => hk68 _ _ hσ1))))))
theorem w_fX12_planned_68 {σ0 : zSt} {k0 : zSt → Option (zSt)} (hk0 : ∀ (y0 : zSt), zKeM σ0 y0 → zpc (k0 y0) (fun r => zKeM σ0 (r))) : ∀ (n : Nat) (y0 : zSt) (y1 : Int32), zKeM σ0 y0 → zpc (fX12_planned_68 k0 n y0 y1) (fun r => zKeM σ0 (r)) := by
  intro n
  induction n with
  | zero => intro y0 y1 h; exact zpc_none
  | succ n ih => intro y0 y1 h; exact w_fX12_planned_68_body hk0 ih h
theorem w_fX12_planned_0_body {σ0 : zSt} {k0 : zSt → Option (zSt)} (hk0 : ∀ (y0 : zSt), zKeM σ0 y0 → zpc (k0 y0) (fun r => zKeM σ0 (r))) {σ : zSt} (h : zKeM σ0 σ) : zpc (fX12_planned_0_body k0 σ) (fun r => zKeM σ0 (r)) := by
  unfold fX12_planned_0_body
  exact zpc_ck (zpc_if (fun _ => w_fX12_planned_113 h) (fun _ => zpc_ck (zpc_ck (zpc_if (fun _ => w_fX12_planned_113 h) (fun _ => zpc_ck (zpc_ck (zpc_ck (zpc_bs (zKeM.wi h (by decide)) (fun σ3 hσ3 => zpc_ck (zpc_ck (zpc_bs (zKeM.wi hσ3 (by decide)) (fun σ4 hσ4 => w_fX12_planned_68 hk0 _ _ _ hσ4))))))))))))
theorem w_fX12_planned_0 {σ0 : zSt} : ∀ (n : Nat) (y0 : zSt), zKeM σ0 y0 → zpc (fX12_planned_0 n y0) (fun r => zKeM σ0 (r)) := by
  intro n
  induction n with
  | zero => intro y0 h; exact zpc_none
  | succ n ih => intro y0 h; exact w_fX12_planned_0_body ih h
theorem w_fX12_planned {σ0 : zSt} {σ : zSt} (h : zKeM σ0 σ) : zpc (fX12_planned σ) (fun r => zKeM σ0 (r)) := by
  unfold fX12_planned
  exact w_fX12_planned_0 _ _ h
theorem w_fX12_ends_195 {σ0 : zSt} {σ : zSt} (h : zKeM σ0 σ) : zpc (fX12_ends_195 σ) (fun r => zKeM σ0 (r)) := by
  unfold fX12_ends_195
  exact zpc_some h
theorem w_fX12_ends_169 {σ0 : zSt} {σ : zSt} {x1 : Int32} (h : zKeM σ0 σ) : zpc (fX12_ends_169 σ x1) (fun r => zKeM σ0 (r)) := by
  unfold fX12_ends_169
  exact zpc_ck (zpc_if (fun _ => zpc_ck (zpc_ck (zpc_bs (zKeM.wi h (by decide)) (fun σ1 hσ1 => w_fX12_ends_195 hσ1)))) (fun _ => w_fX12_ends_195 h))
theorem w_fX12_ends_131 {σ0 : zSt} {σ : zSt} {x1 : Int32} {s0 : Int32} {s1 : Int32} (h : zKeM σ0 σ) : zpc (fX12_ends_131 σ x1 s0 s1) (fun r => zKeM σ0 (r)) := by
  unfold fX12_ends_131
  exact zpc_if (fun _ => zpc_ck (zpc_bs (zKeM.wi h (by decide)) (fun σ2 hσ2 => zpc_bi (w_fX12_reg hσ2) (fun σ3 v4 hσ3 => zpc_ck (zpc_bs (zKeM.wi hσ3 (by decide)) (fun σ5 hσ5 => zpc_ck (zpc_ck (zpc_bs (zKeM.wl hσ5) (fun σ6 hσ6 => zpc_bu (w_fX12_planned hσ6) (fun σ7 hσ7 => w_fX12_ends_169 hσ7)))))))))) (fun _ => w_fX12_ends_169 h)
theorem w_fX12_ends_96 {σ0 : zSt} {σ : zSt} {x1 : Int32} (h : zKeM σ0 σ) : zpc (fX12_ends_96 σ x1) (fun r => zKeM σ0 (r)) := by
  unfold fX12_ends_96
  exact zpc_ck (zpc_ck (zpc_bs (zKeM.wi h (by decide)) (fun σ8 hσ8 => zpc_ck (zpc_if (fun _ => w_fX12_ends_131 hσ8) (fun _ => w_fX12_ends_131 hσ8)))))
theorem w_fX12_ends_27 {σ0 : zSt} {σ : zSt} {x1 : Int32} (h : zKeM σ0 σ) : zpc (fX12_ends_27 σ x1) (fun r => zKeM σ0 (r)) := by
  unfold fX12_ends_27
  exact zpc_ck (zpc_if (fun _ => zpc_bi (w_fX12_reg h) (fun σ9 v10 hσ9 => zpc_ck (zpc_bs (zKeM.wi hσ9 (by decide)) (fun σ11 hσ11 => w_fX12_ends_96 hσ11)))) (fun _ => zpc_ck (zpc_ck (zpc_bs (zKeM.wi h (by decide)) (fun σ12 hσ12 => zpc_ck (zpc_if (fun _ => w_fX12_ends_96 hσ12) (fun _ => zpc_bi (w_fX12_reg hσ12) (fun σ13 v14 hσ13 => zpc_ck (zpc_bs (zKeM.wi hσ13 (by decide)) (fun σ15 hσ15 => zpc_ck (zpc_bs (zKeM.wi hσ15 (by decide)) (fun σ16 hσ16 => w_fX12_ends_96 hσ16))))))))))))
theorem w_fX12_ends {σ0 : zSt} {σ : zSt} (h : zKeM σ0 σ) : zpc (fX12_ends σ) (fun r => zKeM σ0 (r)) := by
  unfold fX12_ends
  exact zpc_bi (w_fX12_height h) (fun σ17 v18 hσ17 => zpc_ck (zpc_if (fun _ => w_fX12_ends_27 hσ17) (fun _ => zpc_ck (zpc_bu (w_fX12_draws hσ17) (fun σ19 hσ19 => w_fX12_ends_27 hσ19)))))
theorem w_fX12_loudness {σ0 : zSt} {σ : zSt} {x0 : Int32} (h : zKeM σ0 σ) : zpc (fX12_loudness σ x0) (fun r => zKeM σ0 (r.1)) := by
  unfold fX12_loudness
  exact zpc_if (fun _ => zpc_some h) (fun _ => zpc_if (fun _ => zpc_some h) (fun _ => zpc_if (fun _ => zpc_some h) (fun _ => zpc_if (fun _ => zpc_some h) (fun _ => zpc_if (fun _ => zpc_some h) (fun _ => zpc_if (fun _ => zpc_some h) (fun _ => zpc_if (fun _ => zpc_some h) (fun _ => zpc_if (fun _ => zpc_some h) (fun _ => zpc_if (fun _ => zpc_some h) (fun _ => zpc_if (fun _ => zpc_some h) (fun _ => zpc_if (fun _ => zpc_some h) (fun _ => zpc_if (fun _ => zpc_some h) (fun _ => zpc_if (fun _ => zpc_some h) (fun _ => zpc_if (fun _ => zpc_some h) (fun _ => zpc_if (fun _ => zpc_some h) (fun _ => zpc_some h)))))))))))))))
theorem w_fX12_sample_102 {σ0 : zSt} {k2 : zSt → Int32 → Option (zSt)} (hk2 : ∀ (y0 : zSt) (y1 : Int32), zKeM σ0 y0 → zpc (k2 y0 y1) (fun r => zKeM σ0 (r))) {σ : zSt} {x1 : Int32} (h : zKeM σ0 σ) : zpc (fX12_sample_102 k2 σ x1) (fun r => zKeM σ0 (r)) := by
  unfold fX12_sample_102
  exact zpc_bv (fun v1 _ => hk2 _ _ h)
theorem w_fX12_sample_101 {σ0 : zSt} {k2 : zSt → Int32 → Option (zSt)} (hk2 : ∀ (y0 : zSt) (y1 : Int32), zKeM σ0 y0 → zpc (k2 y0 y1) (fun r => zKeM σ0 (r))) {σ : zSt} {x1 : Int32} {s0 : Int32} {s1 : Int32} (h : zKeM σ0 σ) : zpc (fX12_sample_101 k2 σ x1 s0 s1) (fun r => zKeM σ0 (r)) := by
  unfold fX12_sample_101
  exact zpc_ck (zpc_bs (zKeM.wi h (by decide)) (fun σ2 hσ2 => w_fX12_sample_102 hk2 hσ2))
theorem w_fX12_sample_32 {σ0 : zSt} {k2 : zSt → Int32 → Option (zSt)} (hk2 : ∀ (y0 : zSt) (y1 : Int32), zKeM σ0 y0 → zpc (k2 y0 y1) (fun r => zKeM σ0 (r))) {σ : zSt} {x1 : Int32} (h : zKeM σ0 σ) : zpc (fX12_sample_32 k2 σ x1) (fun r => zKeM σ0 (r)) := by
  unfold fX12_sample_32
  exact zpc_ck (zpc_if (fun _ => zpc_ck (zpc_ck (zpc_bs (zKeM.wi h (by decide)) (fun σ3 hσ3 => zpc_ck (zpc_if (fun _ => zpc_ck (w_fX12_sample_101 hk2 hσ3)) (fun _ => w_fX12_sample_101 hk2 hσ3)))))) (fun _ => w_fX12_sample_102 hk2 h))
theorem w_fX12_sample_407 {σ0 : zSt} {k275 : zSt → Int64 → Int64 → Int32 → Option (zSt)} (hk275 : ∀ (y0 : zSt) (y1 : Int64) (y2 : Int64) (y3 : Int32), zKeM σ0 y0 → zpc (k275 y0 y1 y2 y3) (fun r => zKeM σ0 (r))) {σ : zSt} {x1 : Int64} {x3 : Int64} {x5 : Int32} (h : zKeM σ0 σ) : zpc (fX12_sample_407 k275 σ x1 x3 x5) (fun r => zKeM σ0 (r)) := by
  unfold fX12_sample_407
  exact zpc_bv (fun v4 _ => hk275 _ _ _ _ h)
theorem w_fX12_sample_369 {σ0 : zSt} {k275 : zSt → Int64 → Int64 → Int32 → Option (zSt)} (hk275 : ∀ (y0 : zSt) (y1 : Int64) (y2 : Int64) (y3 : Int32), zKeM σ0 y0 → zpc (k275 y0 y1 y2 y3) (fun r => zKeM σ0 (r))) {σ : zSt} {x1 : Int64} {x3 : Int64} {x5 : Int32} {x6 : Int32} (h : zKeM σ0 σ) : zpc (fX12_sample_369 k275 σ x1 x3 x5 x6) (fun r => zKeM σ0 (r)) := by
  unfold fX12_sample_369
  exact zpc_if (fun _ => w_fX12_sample_407 hk275 h) (fun _ => zpc_ck (zpc_if (fun _ => zpc_ck (zpc_bi (w_fX12_loudness h) (fun σ5 v6 hσ5 => zpc_bv (fun v7 _ => w_fX12_sample_407 hk275 hσ5)))) (fun _ => w_fX12_sample_407 hk275 h)))
theorem w_fX12_sample_327 {σ0 : zSt} {k275 : zSt → Int64 → Int64 → Int32 → Option (zSt)} (hk275 : ∀ (y0 : zSt) (y1 : Int64) (y2 : Int64) (y3 : Int32), zKeM σ0 y0 → zpc (k275 y0 y1 y2 y3) (fun r => zKeM σ0 (r))) {σ : zSt} {x1 : Int64} {x3 : Int64} {x5 : Int32} {s0 : Int32} (h : zKeM σ0 σ) : zpc (fX12_sample_327 k275 σ x1 x3 x5 s0) (fun r => zKeM σ0 (r)) := by
  unfold fX12_sample_327
  exact zpc_if (fun _ => w_fX12_sample_369 hk275 h) (fun _ => zpc_ck (zpc_if (fun _ => zpc_ck (zpc_bi (w_fX12_loudness h) (fun σ8 v9 hσ8 => zpc_bv (fun v10 _ => w_fX12_sample_369 hk275 hσ8)))) (fun _ => w_fX12_sample_369 hk275 h)))
theorem w_fX12_sample_508 {σ0 : zSt} {σ : zSt} {x1 : Int64} {x3 : Int64} (h : zKeM σ0 σ) : zpc (fX12_sample_508 σ x1 x3) (fun r => zKeM σ0 (r)) := by
  unfold fX12_sample_508
  exact zpc_ck (zpc_ck (zpc_ck (zpc_ck (zpc_bs (zKeM.wl h) (fun σ11 hσ11 => zpc_some hσ11)))))
theorem w_fX12_sample_275_body {σ0 : zSt} {k275 : zSt → Int64 → Int64 → Int32 → Option (zSt)} (hk275 : ∀ (y0 : zSt) (y1 : Int64) (y2 : Int64) (y3 : Int32), zKeM σ0 y0 → zpc (k275 y0 y1 y2 y3) (fun r => zKeM σ0 (r))) {σ : zSt} {x1 : Int64} {x3 : Int64} {x5 : Int32} (h : zKeM σ0 σ) : zpc (fX12_sample_275_body k275 σ x1 x3 x5) (fun r => zKeM σ0 (r)) := by
  unfold fX12_sample_275_body
  exact zpc_if (fun _ => zpc_ck (zpc_ck (zpc_bs (zKeM.wl h) (fun σ12 hσ12 => zpc_ck (zpc_ck (zpc_bs (zKeM.wi hσ12 (by decide)) (fun σ13 hσ13 => zpc_ck (zpc_ck (zpc_bs (zKeM.wi hσ13 (by decide)) (fun σ14 hσ14 => zpc_ck (zpc_ck (zpc_bs (zKeM.wi hσ14 (by decide)) (fun σ15 hσ15 => zpc_ck (zpc_if (fun _ => zpc_ck (zpc_ck (zpc_ck (zpc_bs (zKeM.wi hσ15 (by decide)) (fun σ17 hσ17 => w_fX12_sample_508 hσ17))))) (fun _ => zpc_ck (zpc_ck (zpc_bs (zKeM.wi hσ15 (by decide)) (fun σ16 hσ16 => w_fX12_sample_508 hσ16)))))))))))))))))) (fun _ => zpc_if (fun _ => zpc_ck (zpc_if (fun _ => w_fX12_sample_327 hk275 h) (fun _ => w_fX12_sample_327 hk275 h))) (fun _ => zpc_ck (zpc_if (fun _ => w_fX12_sample_327 hk275 h) (fun _ => w_fX12_sample_327 hk275 h))))
theorem w_fX12_sample_275 {σ0 : zSt} : ∀ (n : Nat) (y0 : zSt) (y1 : Int64) (y2 : Int64) (y3 : Int32), zKeM σ0 y0 → zpc (fX12_sample_275 n y0 y1 y2 y3) (fun r => zKeM σ0 (r)) := by
  intro n
  induction n with
  | zero => intro y0 y1 y2 y3 h; exact zpc_none
  | succ n ih => intro y0 y1 y2 y3 h; exact w_fX12_sample_275_body ih h
theorem w_fX12_sample_268 {σ0 : zSt} {σ : zSt} (h : zKeM σ0 σ) : zpc (fX12_sample_268 σ) (fun r => zKeM σ0 (r)) := by
  unfold fX12_sample_268
  exact w_fX12_sample_275 _ _ _ _ _ h
theorem w_fX12_sample_246 {σ0 : zSt} {σ : zSt} {s0 : Int32} (h : zKeM σ0 σ) : zpc (fX12_sample_246 σ s0) (fun r => zKeM σ0 (r)) := by
  unfold fX12_sample_246
  exact zpc_ck (zpc_ck (zpc_bs (zKeM.wi h (by decide)) (fun σ18 hσ18 => w_fX12_sample_268 hσ18)))
theorem w_fX12_sample_174 {σ0 : zSt} {σ : zSt} {s0 : Int32} {s1 : Int32} (h : zKeM σ0 σ) : zpc (fX12_sample_174 σ s0 s1) (fun r => zKeM σ0 (r)) := by
  unfold fX12_sample_174
  exact zpc_ck (zpc_bs (zKeM.wi h (by decide)) (fun σ19 hσ19 => zpc_ck (zpc_ck (zpc_bs (zKeM.wi hσ19 (by decide)) (fun σ20 hσ20 => zpc_ck (zpc_if (fun _ => zpc_ck (zpc_if (fun _ => zpc_ck (zpc_ck (w_fX12_sample_246 hσ20))) (fun _ => zpc_ck (w_fX12_sample_246 hσ20)))) (fun _ => w_fX12_sample_268 hσ20)))))))
theorem w_fX12_sample_129 {σ0 : zSt} {σ : zSt} (h : zKeM σ0 σ) : zpc (fX12_sample_129 σ) (fun r => zKeM σ0 (r)) := by
  unfold fX12_sample_129
  exact zpc_ck (zpc_if (fun _ => zpc_ck (zpc_ck (zpc_bv (fun v21 _ => zpc_if (fun _ => zpc_ck (w_fX12_sample_174 h)) (fun _ => w_fX12_sample_174 h))))) (fun _ => w_fX12_sample_268 h))
theorem w_fX12_sample_2_body {σ0 : zSt} {k2 : zSt → Int32 → Option (zSt)} (hk2 : ∀ (y0 : zSt) (y1 : Int32), zKeM σ0 y0 → zpc (k2 y0 y1) (fun r => zKeM σ0 (r))) {σ : zSt} {x1 : Int32} (h : zKeM σ0 σ) : zpc (fX12_sample_2_body k2 σ x1) (fun r => zKeM σ0 (r)) := by
  unfold fX12_sample_2_body
  exact zpc_if (fun _ => zpc_ck (zpc_if (fun _ => w_fX12_sample_129 h) (fun _ => zpc_ck (zpc_ck (zpc_bs (zKeM.wi h (by decide)) (fun σ22 hσ22 => w_fX12_sample_129 hσ22)))))) (fun _ => zpc_ck (zpc_if (fun _ => w_fX12_sample_32 hk2 h) (fun _ => zpc_bv (fun v23 _ => zpc_ck (zpc_ck (zpc_bs (zKeM.wi h (by decide)) (fun σ24 hσ24 => w_fX12_sample_32 hk2 hσ24)))))))
theorem w_fX12_sample_2 {σ0 : zSt} : ∀ (n : Nat) (y0 : zSt) (y1 : Int32), zKeM σ0 y0 → zpc (fX12_sample_2 n y0 y1) (fun r => zKeM σ0 (r)) := by
  intro n
  induction n with
  | zero => intro y0 y1 h; exact zpc_none
  | succ n ih => intro y0 y1 h; exact w_fX12_sample_2_body ih h
theorem w_fX12_sample {σ0 : zSt} {σ : zSt} (h : zKeM σ0 σ) : zpc (fX12_sample σ) (fun r => zKeM σ0 (r)) := by
  unfold fX12_sample
  exact w_fX12_sample_2 _ _ _ h
theorem w_fX12_wreg {σ0 : zSt} {σ : zSt} {x1 : Int32} (h : zKeM σ0 σ) : zpc (fX12_wreg σ x1) (fun r => zKeM σ0 (r.1)) := by
  unfold fX12_wreg
  exact zpc_ck (zpc_some h)
theorem w_fX12_isRhythm_22 {σ0 : zSt} {σ : zSt} {s0 : Int32} (h : zKeM σ0 σ) : zpc (fX12_isRhythm_22 σ s0) (fun r => zKeM σ0 (r.1)) := by
  unfold fX12_isRhythm_22
  exact zpc_ck (zpc_some h)
theorem w_fX12_isRhythm_21 {σ0 : zSt} {σ : zSt} (h : zKeM σ0 σ) : zpc (fX12_isRhythm_21 σ) (fun r => zKeM σ0 (r.1)) := by
  unfold fX12_isRhythm_21
  exact w_fX12_isRhythm_22 h
theorem w_fX12_isRhythm {σ0 : zSt} {σ : zSt} {x1 : Int32} (h : zKeM σ0 σ) : zpc (fX12_isRhythm σ x1) (fun r => zKeM σ0 (r.1)) := by
  unfold fX12_isRhythm
  exact zpc_if (fun _ => w_fX12_isRhythm_21 h) (fun _ => zpc_bi (w_fX12_wreg h) (fun σ1 v2 hσ1 => zpc_if (fun _ => w_fX12_isRhythm_21 hσ1) (fun _ => w_fX12_isRhythm_22 hσ1)))
theorem w_fX12_isOn_60 {σ0 : zSt} {σ : zSt} {x3 : Int32} {s0 : Int32} (h : zKeM σ0 σ) : zpc (fX12_isOn_60 σ x3 s0) (fun r => zKeM σ0 (r.1)) := by
  unfold fX12_isOn_60
  exact zpc_bi (w_fX12_wreg h) (fun σ1 v2 hσ1 => zpc_some hσ1)
theorem w_fX12_isOn {σ0 : zSt} {σ : zSt} {x1 : Int32} {x2 : Int32} (h : zKeM σ0 σ) : zpc (fX12_isOn σ x1 x2) (fun r => zKeM σ0 (r.1)) := by
  unfold fX12_isOn
  exact zpc_bi (w_fX12_wreg h) (fun σ3 v4 hσ3 => zpc_bv (fun v5 _ => zpc_bi (w_fX12_isRhythm hσ3) (fun σ6 v7 hσ6 => zpc_if (fun _ => zpc_some hσ6) (fun _ => zpc_if (fun _ => w_fX12_isOn_60 hσ6) (fun _ => zpc_if (fun _ => zpc_if (fun _ => w_fX12_isOn_60 hσ6) (fun _ => w_fX12_isOn_60 hσ6)) (fun _ => zpc_if (fun _ => w_fX12_isOn_60 hσ6) (fun _ => w_fX12_isOn_60 hσ6)))))))
theorem w_fX12_digit_20 {σ0 : zSt} {σ : zSt} {s0 : Int32} (h : zKeM σ0 σ) : zpc (fX12_digit_20 σ s0) (fun r => zKeM σ0 (r.1)) := by
  unfold fX12_digit_20
  exact zpc_some h
theorem w_fX12_digit {σ0 : zSt} {σ : zSt} {x0 : Int32} (h : zKeM σ0 σ) : zpc (fX12_digit σ x0) (fun r => zKeM σ0 (r.1)) := by
  unfold fX12_digit
  exact zpc_if (fun _ => w_fX12_digit_20 h) (fun _ => w_fX12_digit_20 h)
theorem w_fX12_patchByte_25 {σ0 : zSt} {σ : zSt} {x2 : Int32} {s0 : Int32} (h : zKeM σ0 σ) : zpc (fX12_patchByte_25 σ x2 s0) (fun r => zKeM σ0 (r.1)) := by
  unfold fX12_patchByte_25
  exact zpc_if (fun _ => zpc_bi (w_fX12_wreg h) (fun σ6 v7 hσ6 => zpc_some hσ6)) (fun _ => zpc_bv (fun v1 _ => zpc_ck (zpc_ck (zpc_bi (w_fX12_digit h) (fun σ2 v3 hσ2 => zpc_ck (zpc_ck (zpc_bi (w_fX12_digit hσ2) (fun σ4 v5 hσ4 => zpc_some hσ4))))))))
theorem w_fX12_patchByte {σ0 : zSt} {σ : zSt} {x1 : Int32} {x2 : Int32} (h : zKeM σ0 σ) : zpc (fX12_patchByte σ x1 x2) (fun r => zKeM σ0 (r.1)) := by
  unfold fX12_patchByte
  exact zpc_bi (w_fX12_isRhythm h) (fun σ8 v9 hσ8 => zpc_if (fun _ => zpc_bi (w_fX12_wreg hσ8) (fun σ10 v11 hσ10 => w_fX12_patchByte_25 hσ10)) (fun _ => w_fX12_patchByte_25 hσ8))
theorem w_fX12_rate_140 {σ0 : zSt} {σ : zSt} {s0 : Int32} (h : zKeM σ0 σ) : zpc (fX12_rate_140 σ s0) (fun r => zKeM σ0 (r.1)) := by
  unfold fX12_rate_140
  exact zpc_some h
theorem w_fX12_rate_99 {σ0 : zSt} {σ : zSt} {s0 : Int32} (h : zKeM σ0 σ) : zpc (fX12_rate_99 σ s0) (fun r => zKeM σ0 (r.1)) := by
  unfold fX12_rate_99
  exact zpc_some h
theorem w_fX12_rate_17 {σ0 : zSt} {σ : zSt} {x1 : Int32} {x2 : Int32} {x3 : Int32} {s0 : Int32} (h : zKeM σ0 σ) : zpc (fX12_rate_17 σ x1 x2 x3 s0) (fun r => zKeM σ0 (r.1)) := by
  unfold fX12_rate_17
  exact zpc_if (fun _ => zpc_some h) (fun _ => zpc_if (fun _ => zpc_bi (w_fX12_patchByte h) (fun σ1 v2 hσ1 => zpc_some hσ1)) (fun _ => zpc_if (fun _ => zpc_bi (w_fX12_patchByte h) (fun σ3 v4 hσ3 => zpc_some hσ3)) (fun _ => zpc_if (fun _ => zpc_if (fun _ => zpc_bi (w_fX12_patchByte h) (fun σ5 v6 hσ5 => w_fX12_rate_99 hσ5)) (fun _ => w_fX12_rate_99 h)) (fun _ => zpc_bi (w_fX12_wreg h) (fun σ7 v8 hσ7 => zpc_if (fun _ => zpc_if (fun _ => w_fX12_rate_140 hσ7) (fun _ => zpc_bi (w_fX12_patchByte hσ7) (fun σ9 v10 hσ9 => w_fX12_rate_140 hσ9))) (fun _ => w_fX12_rate_140 hσ7))))))
theorem w_fX12_rate {σ0 : zSt} {σ : zSt} {x1 : Int32} {x2 : Int32} {x3 : Int32} (h : zKeM σ0 σ) : zpc (fX12_rate σ x1 x2 x3) (fun r => zKeM σ0 (r.1)) := by
  unfold fX12_rate
  exact zpc_bi (w_fX12_patchByte h) (fun σ11 v12 hσ11 => zpc_if (fun _ => w_fX12_rate_17 hσ11) (fun _ => w_fX12_rate_17 hσ11))
theorem w_fX12_block {σ0 : zSt} {σ : zSt} {x1 : Int32} (h : zKeM σ0 σ) : zpc (fX12_block σ x1) (fun r => zKeM σ0 (r.1)) := by
  unfold fX12_block
  exact zpc_bi (w_fX12_wreg h) (fun σ1 v2 hσ1 => zpc_some hσ1)
theorem w_fX12_f {σ0 : zSt} {σ : zSt} {x1 : Int32} (h : zKeM σ0 σ) : zpc (fX12_f σ x1) (fun r => zKeM σ0 (r.1)) := by
  unfold fX12_f
  exact zpc_bi (w_fX12_wreg h) (fun σ1 v2 hσ1 => zpc_bi (w_fX12_wreg hσ1) (fun σ3 v4 hσ3 => zpc_some hσ3))
theorem w_fX12_t_40 {σ0 : zSt} {σ : zSt} {s0 : Int32} (h : zKeM σ0 σ) : zpc (fX12_t_40 σ s0) (fun r => zKeM σ0 (r.1)) := by
  unfold fX12_t_40
  exact zpc_some h
theorem w_fX12_t_35 {σ0 : zSt} {σ : zSt} (h : zKeM σ0 σ) : zpc (fX12_t_35 σ) (fun r => zKeM σ0 (r.1)) := by
  unfold fX12_t_35
  exact w_fX12_t_40 h
theorem w_fX12_t_39 {σ0 : zSt} {σ : zSt} (h : zKeM σ0 σ) : zpc (fX12_t_39 σ) (fun r => zKeM σ0 (r.1)) := by
  unfold fX12_t_39
  exact w_fX12_t_40 h
theorem w_fX12_t_19 {σ0 : zSt} {σ : zSt} {x0 : Int32} {x1 : Int32} (h : zKeM σ0 σ) : zpc (fX12_t_19 σ x0 x1) (fun r => zKeM σ0 (r.1)) := by
  unfold fX12_t_19
  exact zpc_if (fun _ => w_fX12_t_39 h) (fun _ => zpc_if (fun _ => w_fX12_t_35 h) (fun _ => zpc_if (fun _ => w_fX12_t_35 h) (fun _ => w_fX12_t_39 h)))
theorem w_fX12_t {σ0 : zSt} {σ : zSt} {x0 : Int32} {x1 : Int32} (h : zKeM σ0 σ) : zpc (fX12_t σ x0 x1) (fun r => zKeM σ0 (r.1)) := by
  unfold fX12_t
  exact zpc_ck (zpc_if (fun _ => w_fX12_t_35 h) (fun _ => zpc_ck (zpc_if (fun _ => zpc_if (fun _ => w_fX12_t_35 h) (fun _ => w_fX12_t_19 h)) (fun _ => w_fX12_t_19 h))))
theorem w_fX12_envelope_275 {σ0 : zSt} {σ : zSt} {s0 : Int32} {s1 : Int32} (h : zKeM σ0 σ) : zpc (fX12_envelope_275 σ s0 s1) (fun r => zKeM σ0 (r)) := by
  unfold fX12_envelope_275
  exact zpc_ck (zpc_bs (zKeM.wi h (by decide)) (fun σ1 hσ1 => zpc_some hσ1))
theorem w_fX12_envelope_259 {σ0 : zSt} {σ : zSt} {x1 : Int32} {x15 : Int32} (h : zKeM σ0 σ) : zpc (fX12_envelope_259 σ x1 x15) (fun r => zKeM σ0 (r)) := by
  unfold fX12_envelope_259
  exact zpc_if (fun _ => w_fX12_envelope_275 h) (fun _ => w_fX12_envelope_275 h)
theorem w_fX12_envelope_220 {σ0 : zSt} {σ : zSt} {x1 : Int32} {s0 : Int32} (h : zKeM σ0 σ) : zpc (fX12_envelope_220 σ x1 s0) (fun r => zKeM σ0 (r)) := by
  unfold fX12_envelope_220
  exact w_fX12_envelope_259 h
theorem w_fX12_envelope_257 {σ0 : zSt} {σ : zSt} {x1 : Int32} {s0 : Int32} (h : zKeM σ0 σ) : zpc (fX12_envelope_257 σ x1 s0) (fun r => zKeM σ0 (r)) := by
  unfold fX12_envelope_257
  exact w_fX12_envelope_259 h
theorem w_fX12_envelope_358 {σ0 : zSt} {σ : zSt} {s0 : Int32} {s1 : Int32} (h : zKeM σ0 σ) : zpc (fX12_envelope_358 σ s0 s1) (fun r => zKeM σ0 (r)) := by
  unfold fX12_envelope_358
  exact zpc_ck (zpc_bs (zKeM.wi h (by decide)) (fun σ2 hσ2 => zpc_some hσ2))
theorem w_fX12_envelope_336 {σ0 : zSt} {σ : zSt} {x1 : Int32} {s0 : Int32} {s1 : Int32} (h : zKeM σ0 σ) : zpc (fX12_envelope_336 σ x1 s0 s1) (fun r => zKeM σ0 (r)) := by
  unfold fX12_envelope_336
  exact zpc_bv (fun v3 _ => zpc_if (fun _ => w_fX12_envelope_358 h) (fun _ => w_fX12_envelope_358 h))
theorem w_fX12_envelope_159 {σ0 : zSt} {σ : zSt} {x1 : Int32} {x4 : Int32} {x7 : Int32} {x8 : Int32} {x9 : Int64} {s0 : Int32} (h : zKeM σ0 σ) : zpc (fX12_envelope_159 σ x1 x4 x7 x8 x9 s0) (fun r => zKeM σ0 (r)) := by
  unfold fX12_envelope_159
  exact zpc_ck (zpc_ck (zpc_bv (fun v4 _ => zpc_ck (zpc_bv (fun v5 _ => zpc_if (fun _ => zpc_if (fun _ => zpc_if (fun _ => w_fX12_envelope_257 h) (fun _ => zpc_bi (w_fX12_t h) (fun σ10 v11 hσ10 => w_fX12_envelope_257 hσ10))) (fun _ => zpc_if (fun _ => zpc_ck (w_fX12_envelope_220 h)) (fun _ => w_fX12_envelope_220 h))) (fun _ => zpc_if (fun _ => zpc_if (fun _ => zpc_ck (zpc_bi (w_fX12_t h) (fun σ8 v9 hσ8 => w_fX12_envelope_336 hσ8))) (fun _ => zpc_if (fun _ => zpc_bi (w_fX12_t h) (fun σ6 v7 hσ6 => w_fX12_envelope_336 hσ6)) (fun _ => w_fX12_envelope_336 h))) (fun _ => w_fX12_envelope_336 h)))))))
theorem w_fX12_envelope_158 {σ0 : zSt} {σ : zSt} {x1 : Int32} {x4 : Int32} {x7 : Int32} {x8 : Int32} {x9 : Int64} (h : zKeM σ0 σ) : zpc (fX12_envelope_158 σ x1 x4 x7 x8 x9) (fun r => zKeM σ0 (r)) := by
  unfold fX12_envelope_158
  exact w_fX12_envelope_159 h
theorem w_fX12_envelope_121 {σ0 : zSt} {σ : zSt} {x1 : Int32} {x4 : Int32} {x7 : Int32} {x8 : Int32} {x9 : Int64} {s0 : Int64} (h : zKeM σ0 σ) : zpc (fX12_envelope_121 σ x1 x4 x7 x8 x9 s0) (fun r => zKeM σ0 (r)) := by
  unfold fX12_envelope_121
  exact zpc_if (fun _ => w_fX12_envelope_158 h) (fun _ => zpc_ck (zpc_if (fun _ => zpc_ck (zpc_ck (zpc_bi (w_fX12_t h) (fun σ12 v13 hσ12 => w_fX12_envelope_159 hσ12)))) (fun _ => w_fX12_envelope_158 h)))
theorem w_fX12_envelope_87 {σ0 : zSt} {σ : zSt} {x1 : Int32} {x4 : Int32} {x6 : Int32} {s0 : Int32} (h : zKeM σ0 σ) : zpc (fX12_envelope_87 σ x1 x4 x6 s0) (fun r => zKeM σ0 (r)) := by
  unfold fX12_envelope_87
  exact zpc_ck (zpc_bv (fun v14 _ => zpc_ck (zpc_bv (fun v15 _ => zpc_if (fun _ => w_fX12_envelope_121 h) (fun _ => w_fX12_envelope_121 h)))))
theorem w_fX12_envelope_63 {σ0 : zSt} {σ : zSt} {x1 : Int32} {x4 : Int32} {x5 : Int32} {x6 : Int32} (h : zKeM σ0 σ) : zpc (fX12_envelope_63 σ x1 x4 x5 x6) (fun r => zKeM σ0 (r)) := by
  unfold fX12_envelope_63
  exact zpc_ck (zpc_if (fun _ => zpc_ck (w_fX12_envelope_87 h)) (fun _ => w_fX12_envelope_87 h))
theorem w_fX12_envelope {σ0 : zSt} {σ : zSt} {x1 : Int32} {x2 : Int32} {x3 : Int32} (h : zKeM σ0 σ) : zpc (fX12_envelope σ x1 x2 x3) (fun r => zKeM σ0 (r)) := by
  unfold fX12_envelope
  exact zpc_ck (zpc_bv (fun v16 _ => zpc_bi (w_fX12_rate h) (fun σ17 v18 hσ17 => zpc_if (fun _ => zpc_some hσ17) (fun _ => zpc_bi (w_fX12_block hσ17) (fun σ19 v20 hσ19 => zpc_bi (w_fX12_f hσ19) (fun σ21 v22 hσ21 => zpc_ck (zpc_bv (fun v23 _ => zpc_bi (w_fX12_patchByte hσ21) (fun σ24 v25 hσ24 => zpc_if (fun _ => zpc_ck (zpc_bv (fun v26 _ => w_fX12_envelope_63 hσ24))) (fun _ => w_fX12_envelope_63 hσ24))))))))))
theorem w_fX12_phase_150 {σ0 : zSt} {σ : zSt} {x1 : Int32} {x2 : Int32} {x5 : Int32} {x6 : Int32} (h : zKeM σ0 σ) : zpc (fX12_phase_150 σ x1 x2 x5 x6) (fun r => zKeM σ0 (r)) := by
  unfold fX12_phase_150
  exact zpc_ck (zpc_bi (w_fX12_f h) (fun σ1 v2 hσ1 => zpc_bi (w_fX12_block hσ1) (fun σ3 v4 hσ3 => zpc_ck (zpc_ck (zpc_bs (zKeM.wi hσ3 (by decide)) (fun σ5 hσ5 => zpc_some hσ5))))))
theorem w_fX12_phase_148 {σ0 : zSt} {σ : zSt} {x1 : Int32} {x2 : Int32} {x5 : Int32} {s0 : Int32} (h : zKeM σ0 σ) : zpc (fX12_phase_148 σ x1 x2 x5 s0) (fun r => zKeM σ0 (r)) := by
  unfold fX12_phase_148
  exact w_fX12_phase_150 h
theorem w_fX12_phase_132 {σ0 : zSt} {σ : zSt} {x1 : Int32} {x2 : Int32} {x5 : Int32} {x7 : Int32} {s0 : Int32} (h : zKeM σ0 σ) : zpc (fX12_phase_132 σ x1 x2 x5 x7 s0) (fun r => zKeM σ0 (r)) := by
  unfold fX12_phase_132
  exact zpc_if (fun _ => w_fX12_phase_148 h) (fun _ => w_fX12_phase_148 h)
theorem w_fX12_phase_60 {σ0 : zSt} {σ : zSt} {x1 : Int32} {x2 : Int32} {x3 : Int32} {s0 : Int32} (h : zKeM σ0 σ) : zpc (fX12_phase_60 σ x1 x2 x3 s0) (fun r => zKeM σ0 (r)) := by
  unfold fX12_phase_60
  exact zpc_bi (w_fX12_patchByte h) (fun σ6 v7 hσ6 => zpc_if (fun _ => w_fX12_phase_150 hσ6) (fun _ => zpc_ck (zpc_ck (zpc_ck (zpc_bv (fun v8 _ => zpc_bi (w_fX12_f hσ6) (fun σ9 v10 hσ9 => zpc_ck (zpc_bv (fun v11 _ => zpc_ck (zpc_if (fun _ => w_fX12_phase_132 hσ9) (fun _ => zpc_ck (zpc_if (fun _ => w_fX12_phase_132 hσ9) (fun _ => zpc_ck (w_fX12_phase_132 hσ9))))))))))))))
theorem w_fX12_phase {σ0 : zSt} {σ : zSt} {x1 : Int32} {x2 : Int32} {x3 : Int32} (h : zKeM σ0 σ) : zpc (fX12_phase σ x1 x2 x3) (fun r => zKeM σ0 (r)) := by
  unfold fX12_phase
  exact zpc_bi (w_fX12_patchByte h) (fun σ12 v13 hσ12 => zpc_bv (fun v14 _ => zpc_if (fun _ => w_fX12_phase_60 hσ12) (fun _ => zpc_if (fun _ => zpc_if (fun _ => w_fX12_phase_60 hσ12) (fun _ => zpc_if (fun _ => w_fX12_phase_60 hσ12) (fun _ => w_fX12_phase_60 hσ12))) (fun _ => w_fX12_phase_60 hσ12))))
theorem w_fX12_drum_191 {σ0 : zSt} {σ : zSt} {s0 : Int32} (h : zKeM σ0 σ) : zpc (fX12_drum_191 σ s0) (fun r => zKeM σ0 (r.1)) := by
  unfold fX12_drum_191
  exact zpc_some h
theorem w_fX12_drum_214 {σ0 : zSt} {σ : zSt} {s0 : Int32} (h : zKeM σ0 σ) : zpc (fX12_drum_214 σ s0) (fun r => zKeM σ0 (r.1)) := by
  unfold fX12_drum_214
  exact zpc_some h
theorem w_fX12_drum_148 {σ0 : zSt} {σ : zSt} {x1 : Int32} {x2 : Int32} {x3 : Int32} {x6 : Int32} {x7 : Int32} (h : zKeM σ0 σ) : zpc (fX12_drum_148 σ x1 x2 x3 x6 x7) (fun r => zKeM σ0 (r.1)) := by
  unfold fX12_drum_148
  exact zpc_if (fun _ => zpc_if (fun _ => zpc_if (fun _ => w_fX12_drum_191 h) (fun _ => w_fX12_drum_191 h)) (fun _ => zpc_if (fun _ => w_fX12_drum_191 h) (fun _ => w_fX12_drum_191 h))) (fun _ => zpc_if (fun _ => w_fX12_drum_214 h) (fun _ => zpc_if (fun _ => w_fX12_drum_214 h) (fun _ => w_fX12_drum_214 h)))
theorem w_fX12_drum_147 {σ0 : zSt} {σ : zSt} {s0 : Int32} (h : zKeM σ0 σ) : zpc (fX12_drum_147 σ s0) (fun r => zKeM σ0 (r.1)) := by
  unfold fX12_drum_147
  exact zpc_some h
theorem w_fX12_drum_100 {σ0 : zSt} {σ : zSt} {x1 : Int32} {x2 : Int32} {x3 : Int32} {x6 : Int32} {s0 : Int32} (h : zKeM σ0 σ) : zpc (fX12_drum_100 σ x1 x2 x3 x6 s0) (fun r => zKeM σ0 (r.1)) := by
  unfold fX12_drum_100
  exact zpc_if (fun _ => zpc_if (fun _ => zpc_if (fun _ => zpc_if (fun _ => w_fX12_drum_147 h) (fun _ => w_fX12_drum_147 h)) (fun _ => zpc_if (fun _ => w_fX12_drum_147 h) (fun _ => w_fX12_drum_147 h))) (fun _ => w_fX12_drum_148 h)) (fun _ => w_fX12_drum_148 h)
theorem w_fX12_drum_79 {σ0 : zSt} {σ : zSt} {x1 : Int32} {x2 : Int32} {x3 : Int32} {s0 : Int32} (h : zKeM σ0 σ) : zpc (fX12_drum_79 σ x1 x2 x3 s0) (fun r => zKeM σ0 (r.1)) := by
  unfold fX12_drum_79
  exact zpc_ck (zpc_if (fun _ => w_fX12_drum_100 h) (fun _ => w_fX12_drum_100 h))
theorem w_fX12_drum_74 {σ0 : zSt} {σ : zSt} {x1 : Int32} {x2 : Int32} {x3 : Int32} (h : zKeM σ0 σ) : zpc (fX12_drum_74 σ x1 x2 x3) (fun r => zKeM σ0 (r.1)) := by
  unfold fX12_drum_74
  exact w_fX12_drum_79 h
theorem w_fX12_drum {σ0 : zSt} {σ : zSt} {x1 : Int32} {x2 : Int32} {x3 : Int32} (h : zKeM σ0 σ) : zpc (fX12_drum σ x1 x2 x3) (fun r => zKeM σ0 (r.1)) := by
  unfold fX12_drum
  exact zpc_ck (zpc_ck (zpc_bv (fun v1 _ => zpc_ck (zpc_ck (zpc_bv (fun v2 _ => zpc_if (fun _ => zpc_if (fun _ => zpc_if (fun _ => w_fX12_drum_79 h) (fun _ => w_fX12_drum_74 h)) (fun _ => w_fX12_drum_74 h)) (fun _ => w_fX12_drum_74 h)))))))
theorem w_fX12_kept_97 {σ0 : zSt} {σ : zSt} {s0 : Int32} (h : zKeM σ0 σ) : zpc (fX12_kept_97 σ s0) (fun r => zKeM σ0 (r.1)) := by
  unfold fX12_kept_97
  exact zpc_some h
theorem w_fX12_kept {σ0 : zSt} {σ : zSt} {x0 : Int32} (h : zKeM σ0 σ) : zpc (fX12_kept σ x0) (fun r => zKeM σ0 (r.1)) := by
  unfold fX12_kept
  exact zpc_if (fun _ => w_fX12_kept_97 h) (fun _ => zpc_if (fun _ => w_fX12_kept_97 h) (fun _ => zpc_if (fun _ => w_fX12_kept_97 h) (fun _ => zpc_if (fun _ => w_fX12_kept_97 h) (fun _ => zpc_if (fun _ => w_fX12_kept_97 h) (fun _ => zpc_if (fun _ => w_fX12_kept_97 h) (fun _ => zpc_if (fun _ => w_fX12_kept_97 h) (fun _ => zpc_if (fun _ => w_fX12_kept_97 h) (fun _ => zpc_if (fun _ => w_fX12_kept_97 h) (fun _ => w_fX12_kept_97 h)))))))))
theorem w_fX12_waveAt_376 {σ0 : zSt} {σ : zSt} {s0 : Int32} (h : zKeM σ0 σ) : zpc (fX12_waveAt_376 σ s0) (fun r => zKeM σ0 (r.1)) := by
  unfold fX12_waveAt_376
  exact zpc_some h
theorem w_fX12_waveAt_296 {σ0 : zSt} {σ : zSt} {x2 : Int32} {x3 : Int32} {x4 : Int32} {x5 : Int32} {s0 : Int32} (h : zKeM σ0 σ) : zpc (fX12_waveAt_296 σ x2 x3 x4 x5 s0) (fun r => zKeM σ0 (r.1)) := by
  unfold fX12_waveAt_296
  exact zpc_ck (zpc_bv (fun v1 _ => zpc_ck (zpc_ck (zpc_ck (zpc_bv (fun v2 _ => zpc_if (fun _ => zpc_some h) (fun _ => zpc_bi (w_fX12_patchByte h) (fun σ3 v4 hσ3 => zpc_if (fun _ => w_fX12_waveAt_376 hσ3) (fun _ => w_fX12_waveAt_376 hσ3)))))))))
theorem w_fX12_waveAt_263 {σ0 : zSt} {σ : zSt} {x1 : Int32} {x2 : Int32} {x3 : Int32} {x4 : Int32} {x5 : Int32} {x8 : Int32} {x11 : Int32} {s0 : Int32} (h : zKeM σ0 σ) : zpc (fX12_waveAt_263 σ x1 x2 x3 x4 x5 x8 x11 s0) (fun r => zKeM σ0 (r.1)) := by
  unfold fX12_waveAt_263
  exact zpc_ck (zpc_bv (fun v5 _ => zpc_if (fun _ => w_fX12_waveAt_296 h) (fun _ => w_fX12_waveAt_296 h)))
theorem w_fX12_waveAt_260 {σ0 : zSt} {σ : zSt} {x1 : Int32} {x2 : Int32} {x3 : Int32} {x4 : Int32} {x5 : Int32} {x8 : Int32} {x11 : Int32} {s0 : Int32} (h : zKeM σ0 σ) : zpc (fX12_waveAt_260 σ x1 x2 x3 x4 x5 x8 x11 s0) (fun r => zKeM σ0 (r.1)) := by
  unfold fX12_waveAt_260
  exact zpc_ck (w_fX12_waveAt_263 h)
theorem w_fX12_waveAt_206 {σ0 : zSt} {σ : zSt} {x1 : Int32} {x2 : Int32} {x3 : Int32} {x4 : Int32} {x5 : Int32} {x8 : Int32} {s0 : Int32} (h : zKeM σ0 σ) : zpc (fX12_waveAt_206 σ x1 x2 x3 x4 x5 x8 s0) (fun r => zKeM σ0 (r.1)) := by
  unfold fX12_waveAt_206
  exact zpc_ck (zpc_ck (zpc_ck (zpc_bv (fun v6 _ => zpc_bi (w_fX12_patchByte h) (fun σ7 v8 hσ7 => zpc_if (fun _ => w_fX12_waveAt_263 hσ7) (fun _ => zpc_if (fun _ => w_fX12_waveAt_260 hσ7) (fun _ => w_fX12_waveAt_260 hσ7)))))))
theorem w_fX12_waveAt_192 {σ0 : zSt} {σ : zSt} {x1 : Int32} {x2 : Int32} {x3 : Int32} {x4 : Int32} {x5 : Int32} {x8 : Int32} {x9 : Int32} (h : zKeM σ0 σ) : zpc (fX12_waveAt_192 σ x1 x2 x3 x4 x5 x8 x9) (fun r => zKeM σ0 (r.1)) := by
  unfold fX12_waveAt_192
  exact zpc_ck (zpc_ck (w_fX12_waveAt_206 h))
theorem w_fX12_waveAt_123 {σ0 : zSt} {σ : zSt} {x1 : Int32} {x2 : Int32} {x3 : Int32} {x4 : Int32} {x5 : Int32} {s0 : Int32} (h : zKeM σ0 σ) : zpc (fX12_waveAt_123 σ x1 x2 x3 x4 x5 s0) (fun r => zKeM σ0 (r.1)) := by
  unfold fX12_waveAt_123
  exact zpc_bi (w_fX12_patchByte h) (fun σ9 v10 hσ9 => zpc_bv (fun v11 _ => zpc_bi (w_fX12_wreg hσ9) (fun σ12 v13 hσ12 => zpc_bv (fun v14 _ => zpc_if (fun _ => w_fX12_waveAt_206 hσ12) (fun _ => zpc_bi (w_fX12_isRhythm hσ12) (fun σ15 v16 hσ15 => zpc_if (fun _ => w_fX12_waveAt_192 hσ15) (fun _ => zpc_if (fun _ => w_fX12_waveAt_192 hσ15) (fun _ => zpc_bi (w_fX12_wreg hσ15) (fun σ17 v18 hσ17 => w_fX12_waveAt_206 hσ17)))))))))
theorem w_fX12_waveAt_91 {σ0 : zSt} {σ : zSt} {x1 : Int32} {x2 : Int32} {x3 : Int32} {x4 : Int32} {x5 : Int32} (h : zKeM σ0 σ) : zpc (fX12_waveAt_91 σ x1 x2 x3 x4 x5) (fun r => zKeM σ0 (r.1)) := by
  unfold fX12_waveAt_91
  exact w_fX12_waveAt_123 h
theorem w_fX12_waveAt_41 {σ0 : zSt} {σ : zSt} {x1 : Int32} {x2 : Int32} {x3 : Int32} {x4 : Int32} {s0 : Int32} (h : zKeM σ0 σ) : zpc (fX12_waveAt_41 σ x1 x2 x3 x4 s0) (fun r => zKeM σ0 (r.1)) := by
  unfold fX12_waveAt_41
  exact zpc_bi (w_fX12_patchByte h) (fun σ19 v20 hσ19 => zpc_bv (fun v21 _ => zpc_bi (w_fX12_f hσ19) (fun σ22 v23 hσ22 => zpc_ck (zpc_bi (w_fX12_kept hσ22) (fun σ24 v25 hσ24 => zpc_bi (w_fX12_block hσ24) (fun σ26 v27 hσ26 => zpc_bv (fun v28 _ => zpc_if (fun _ => w_fX12_waveAt_91 hσ26) (fun _ => zpc_if (fun _ => w_fX12_waveAt_91 hσ26) (fun _ => zpc_if (fun _ => zpc_ck (w_fX12_waveAt_123 hσ26)) (fun _ => zpc_if (fun _ => zpc_ck (w_fX12_waveAt_123 hσ26)) (fun _ => w_fX12_waveAt_123 hσ26)))))))))))
theorem w_fX12_waveAt {σ0 : zSt} {σ : zSt} {x1 : Int32} {x2 : Int32} {x3 : Int32} {x4 : Int32} (h : zKeM σ0 σ) : zpc (fX12_waveAt σ x1 x2 x3 x4) (fun r => zKeM σ0 (r.1)) := by
  unfold fX12_waveAt
  exact zpc_ck (zpc_if (fun _ => zpc_if (fun _ => zpc_ck (w_fX12_waveAt_41 h)) (fun _ => zpc_ck (w_fX12_waveAt_41 h))) (fun _ => zpc_some h))
theorem w_fX12_operator_319 {σ0 : zSt} {σ : zSt} {x1 : Int32} {x2 : Int32} {x3 : Int32} {x5 : Int32} {x8 : Int32} (h : zKeM σ0 σ) : zpc (fX12_operator_319 σ x1 x2 x3 x5 x8) (fun r => zKeM σ0 (r)) := by
  unfold fX12_operator_319
  exact zpc_ck (zpc_bs (zKeM.wi h (by decide)) (fun σ1 hσ1 => zpc_bi (w_fX12_waveAt hσ1) (fun σ2 v3 hσ2 => zpc_ck (zpc_bs (zKeM.wi hσ2 (by decide)) (fun σ4 hσ4 => zpc_some hσ4)))))
theorem w_fX12_operator_266 {σ0 : zSt} {σ : zSt} {x1 : Int32} {x2 : Int32} {x3 : Int32} {x5 : Int32} {s0 : Int32} (h : zKeM σ0 σ) : zpc (fX12_operator_266 σ x1 x2 x3 x5 s0) (fun r => zKeM σ0 (r)) := by
  unfold fX12_operator_266
  exact zpc_ck (zpc_ck (zpc_bv (fun v5 _ => zpc_bi (w_fX12_isRhythm h) (fun σ6 v7 hσ6 => zpc_if (fun _ => w_fX12_operator_319 hσ6) (fun _ => zpc_if (fun _ => w_fX12_operator_319 hσ6) (fun _ => zpc_ck (zpc_ck (zpc_bi (w_fX12_drum hσ6) (fun σ8 v9 hσ8 => w_fX12_operator_319 hσ8)))))))))
theorem w_fX12_operator_190 {σ0 : zSt} {σ : zSt} {x1 : Int32} {x2 : Int32} {x3 : Int32} (h : zKeM σ0 σ) : zpc (fX12_operator_190 σ x1 x2 x3) (fun r => zKeM σ0 (r)) := by
  unfold fX12_operator_190
  exact zpc_bu (w_fX12_phase h) (fun σ10 hσ10 => zpc_ck (zpc_bv (fun v11 _ => zpc_bi (w_fX12_patchByte hσ10) (fun σ12 v13 hσ12 => zpc_bv (fun v14 _ => zpc_if (fun _ => zpc_ck (w_fX12_operator_266 hσ12)) (fun _ => zpc_if (fun _ => w_fX12_operator_266 hσ12) (fun _ => zpc_ck (zpc_ck (w_fX12_operator_266 hσ12)))))))))
theorem w_fX12_operator_146 {σ0 : zSt} {σ : zSt} {x1 : Int32} {x2 : Int32} {x3 : Int32} (h : zKeM σ0 σ) : zpc (fX12_operator_146 σ x1 x2 x3) (fun r => zKeM σ0 (r)) := by
  unfold fX12_operator_146
  exact zpc_ck (zpc_if (fun _ => zpc_ck (zpc_ck (zpc_bi (w_fX12_patchByte h) (fun σ15 v16 hσ15 => zpc_if (fun _ => w_fX12_operator_190 hσ15) (fun _ => zpc_ck (zpc_bs (zKeM.wi hσ15 (by decide)) (fun σ17 hσ17 => w_fX12_operator_190 hσ17))))))) (fun _ => w_fX12_operator_190 h))
theorem w_fX12_operator_113 {σ0 : zSt} {σ : zSt} {x1 : Int32} {x2 : Int32} {x3 : Int32} (h : zKeM σ0 σ) : zpc (fX12_operator_113 σ x1 x2 x3) (fun r => zKeM σ0 (r)) := by
  unfold fX12_operator_113
  exact zpc_ck (zpc_if (fun _ => zpc_ck (zpc_if (fun _ => zpc_ck (zpc_bs (zKeM.wi h (by decide)) (fun σ18 hσ18 => w_fX12_operator_190 hσ18))) (fun _ => w_fX12_operator_146 h))) (fun _ => w_fX12_operator_146 h))
theorem w_fX12_operator_53 {σ0 : zSt} {σ : zSt} {x1 : Int32} {x2 : Int32} {x3 : Int32} {x4 : Int32} (h : zKeM σ0 σ) : zpc (fX12_operator_53 σ x1 x2 x3 x4) (fun r => zKeM σ0 (r)) := by
  unfold fX12_operator_53
  exact zpc_ck (zpc_bs (zKeM.wi h (by decide)) (fun σ19 hσ19 => zpc_bu (w_fX12_envelope hσ19) (fun σ20 hσ20 => zpc_ck (zpc_if (fun _ => zpc_ck (zpc_if (fun _ => w_fX12_operator_113 hσ20) (fun _ => zpc_ck (zpc_bs (zKeM.wi hσ20 (by decide)) (fun σ21 hσ21 => zpc_ck (zpc_bs (zKeM.wi hσ21 (by decide)) (fun σ22 hσ22 => w_fX12_operator_190 hσ22))))))) (fun _ => w_fX12_operator_113 hσ20)))))
theorem w_fX12_operator_52 {σ0 : zSt} {σ : zSt} {x1 : Int32} {x2 : Int32} {x3 : Int32} {x4 : Int32} {s0 : Int32} {s1 : Int32} (h : zKeM σ0 σ) : zpc (fX12_operator_52 σ x1 x2 x3 x4 s0 s1) (fun r => zKeM σ0 (r)) := by
  unfold fX12_operator_52
  exact zpc_ck (zpc_bs (zKeM.wi h (by decide)) (fun σ23 hσ23 => w_fX12_operator_53 hσ23))
theorem w_fX12_operator {σ0 : zSt} {σ : zSt} {x1 : Int32} {x2 : Int32} (h : zKeM σ0 σ) : zpc (fX12_operator σ x1 x2) (fun r => zKeM σ0 (r)) := by
  unfold fX12_operator
  exact zpc_bv (fun v24 _ => zpc_bi (w_fX12_isOn h) (fun σ25 v26 hσ25 => zpc_ck (zpc_if (fun _ => w_fX12_operator_53 hσ25) (fun _ => zpc_if (fun _ => w_fX12_operator_52 hσ25) (fun _ => w_fX12_operator_52 hσ25)))))
theorem w_fX12_waves_20_body {σ0 : zSt} {k12 : zSt → Int32 → Option (zSt)} (hk12 : ∀ (y0 : zSt) (y1 : Int32), zKeM σ0 y0 → zpc (k12 y0 y1) (fun r => zKeM σ0 (r))) {k20 : zSt → Int32 → Int32 → Option (zSt)} (hk20 : ∀ (y0 : zSt) (y1 : Int32) (y2 : Int32), zKeM σ0 y0 → zpc (k20 y0 y1 y2) (fun r => zKeM σ0 (r))) {σ : zSt} {x1 : Int32} {x2 : Int32} (h : zKeM σ0 σ) : zpc (fX12_waves_20_body k12 k20 σ x1 x2) (fun r => zKeM σ0 (r)) := by
  unfold fX12_waves_20_body
  exact zpc_if (fun _ => zpc_bv (fun v1 _ => hk12 _ _ h)) (fun _ => zpc_bu (w_fX12_operator h) (fun σ2 hσ2 => zpc_bv (fun v3 _ => hk20 _ _ _ hσ2)))
theorem w_fX12_waves_20 {σ0 : zSt} {k12 : zSt → Int32 → Option (zSt)} (hk12 : ∀ (y0 : zSt) (y1 : Int32), zKeM σ0 y0 → zpc (k12 y0 y1) (fun r => zKeM σ0 (r))) : ∀ (n : Nat) (y0 : zSt) (y1 : Int32) (y2 : Int32), zKeM σ0 y0 → zpc (fX12_waves_20 k12 n y0 y1 y2) (fun r => zKeM σ0 (r)) := by
  intro n
  induction n with
  | zero => intro y0 y1 y2 h; exact zpc_none
  | succ n ih => intro y0 y1 y2 h; exact w_fX12_waves_20_body hk12 ih h
theorem w_fX12_waves_157 {σ0 : zSt} {k82 : zSt → Int32 → Int32 → Option (zSt)} (hk82 : ∀ (y0 : zSt) (y1 : Int32) (y2 : Int32), zKeM σ0 y0 → zpc (k82 y0 y1 y2) (fun r => zKeM σ0 (r))) {σ : zSt} {x2 : Int32} {x3 : Int32} (h : zKeM σ0 σ) : zpc (fX12_waves_157 k82 σ x2 x3) (fun r => zKeM σ0 (r)) := by
  unfold fX12_waves_157
  exact zpc_bv (fun v4 _ => hk82 _ _ _ h)
theorem w_fX12_waves_153 {σ0 : zSt} {k82 : zSt → Int32 → Int32 → Option (zSt)} (hk82 : ∀ (y0 : zSt) (y1 : Int32) (y2 : Int32), zKeM σ0 y0 → zpc (k82 y0 y1 y2) (fun r => zKeM σ0 (r))) {σ : zSt} {x3 : Int32} {s0 : Int32} {s1 : Int32} {s2 : Int32} {s3 : Int32} (h : zKeM σ0 σ) : zpc (fX12_waves_153 k82 σ x3 s0 s1 s2 s3) (fun r => zKeM σ0 (r)) := by
  unfold fX12_waves_153
  exact zpc_bv (fun v5 _ => w_fX12_waves_157 hk82 h)
theorem w_fX12_waves_82_body {σ0 : zSt} {k82 : zSt → Int32 → Int32 → Option (zSt)} (hk82 : ∀ (y0 : zSt) (y1 : Int32) (y2 : Int32), zKeM σ0 y0 → zpc (k82 y0 y1 y2) (fun r => zKeM σ0 (r))) {σ : zSt} {x2 : Int32} {x3 : Int32} (h : zKeM σ0 σ) : zpc (fX12_waves_82_body k82 σ x2 x3) (fun r => zKeM σ0 (r)) := by
  unfold fX12_waves_82_body
  exact zpc_if (fun _ => zpc_ck (zpc_bs (zKeM.wi h (by decide)) (fun σ6 hσ6 => zpc_some hσ6))) (fun _ => zpc_bv (fun v7 _ => zpc_bi (w_fX12_isRhythm h) (fun σ8 v9 hσ8 => zpc_if (fun _ => zpc_ck (zpc_bv (fun v10 _ => w_fX12_waves_157 hk82 hσ8))) (fun _ => zpc_ck (zpc_if (fun _ => w_fX12_waves_153 hk82 hσ8) (fun _ => zpc_ck (w_fX12_waves_153 hk82 hσ8)))))))
theorem w_fX12_waves_82 {σ0 : zSt} : ∀ (n : Nat) (y0 : zSt) (y1 : Int32) (y2 : Int32), zKeM σ0 y0 → zpc (fX12_waves_82 n y0 y1 y2) (fun r => zKeM σ0 (r)) := by
  intro n
  induction n with
  | zero => intro y0 y1 y2 h; exact zpc_none
  | succ n ih => intro y0 y1 y2 h; exact w_fX12_waves_82_body ih h
theorem w_fX12_waves_75 {σ0 : zSt} {σ : zSt} {s0 : Int32} {s1 : Int32} (h : zKeM σ0 σ) : zpc (fX12_waves_75 σ s0 s1) (fun r => zKeM σ0 (r)) := by
  unfold fX12_waves_75
  exact zpc_ck (zpc_bs (zKeM.wi h (by decide)) (fun σ11 hσ11 => w_fX12_waves_82 _ _ _ _ hσ11))
theorem w_fX12_waves_12_body {σ0 : zSt} {k12 : zSt → Int32 → Option (zSt)} (hk12 : ∀ (y0 : zSt) (y1 : Int32), zKeM σ0 y0 → zpc (k12 y0 y1) (fun r => zKeM σ0 (r))) {σ : zSt} {x1 : Int32} (h : zKeM σ0 σ) : zpc (fX12_waves_12_body k12 σ x1) (fun r => zKeM σ0 (r)) := by
  unfold fX12_waves_12_body
  exact zpc_if (fun _ => zpc_ck (zpc_bv (fun v12 _ => zpc_if (fun _ => w_fX12_waves_75 h) (fun _ => w_fX12_waves_75 h)))) (fun _ => w_fX12_waves_20 hk12 _ _ _ _ h)
theorem w_fX12_waves_12 {σ0 : zSt} : ∀ (n : Nat) (y0 : zSt) (y1 : Int32), zKeM σ0 y0 → zpc (fX12_waves_12 n y0 y1) (fun r => zKeM σ0 (r)) := by
  intro n
  induction n with
  | zero => intro y0 y1 h; exact zpc_none
  | succ n ih => intro y0 y1 h; exact w_fX12_waves_12_body ih h
theorem w_fX12_waves {σ0 : zSt} {σ : zSt} (h : zKeM σ0 σ) : zpc (fX12_waves σ) (fun r => zKeM σ0 (r)) := by
  unfold fX12_waves
  exact zpc_ck (zpc_ck (zpc_bs (zKeM.wl h) (fun σ13 hσ13 => w_fX12_waves_12 _ _ _ hσ13)))
theorem w_fX12_mixed_151 {σ0 : zSt} {σ : zSt} {x2 : Int64} (h : zKeM σ0 σ) : zpc (fX12_mixed_151 σ x2) (fun r => zKeM σ0 (r)) := by
  unfold fX12_mixed_151
  exact zpc_ck (zpc_ck (zpc_ck (zpc_ck (zpc_bs (zKeM.wl h) (fun σ1 hσ1 => zpc_some hσ1)))))
theorem w_fX12_mixed_76_body {σ0 : zSt} {k76 : zSt → Int64 → Int32 → Option (zSt)} (hk76 : ∀ (y0 : zSt) (y1 : Int64) (y2 : Int32), zKeM σ0 y0 → zpc (k76 y0 y1 y2) (fun r => zKeM σ0 (r))) {σ : zSt} {x2 : Int64} {x4 : Int32} (h : zKeM σ0 σ) : zpc (fX12_mixed_76_body k76 σ x2 x4) (fun r => zKeM σ0 (r)) := by
  unfold fX12_mixed_76_body
  exact zpc_if (fun _ => zpc_ck (zpc_if (fun _ => zpc_ck (zpc_ck (zpc_ck (zpc_bs (zKeM.wi h (by decide)) (fun σ3 hσ3 => w_fX12_mixed_151 hσ3))))) (fun _ => zpc_ck (zpc_ck (zpc_bs (zKeM.wi h (by decide)) (fun σ2 hσ2 => w_fX12_mixed_151 hσ2)))))) (fun _ => zpc_ck (zpc_bs (zKeM.wi h (by decide)) (fun σ4 hσ4 => zpc_bv (fun v5 _ => hk76 _ _ _ hσ4))))
theorem w_fX12_mixed_76 {σ0 : zSt} : ∀ (n : Nat) (y0 : zSt) (y1 : Int64) (y2 : Int32), zKeM σ0 y0 → zpc (fX12_mixed_76 n y0 y1 y2) (fun r => zKeM σ0 (r)) := by
  intro n
  induction n with
  | zero => intro y0 y1 y2 h; exact zpc_none
  | succ n ih => intro y0 y1 y2 h; exact w_fX12_mixed_76_body ih h
theorem w_fX12_mixed_26 {σ0 : zSt} {σ : zSt} {s0 : Int32} (h : zKeM σ0 σ) : zpc (fX12_mixed_26 σ s0) (fun r => zKeM σ0 (r)) := by
  unfold fX12_mixed_26
  exact zpc_ck (zpc_ck (zpc_ck (zpc_ck (zpc_ck (zpc_ck (zpc_bv (fun v6 _ => w_fX12_mixed_76 _ _ _ _ h)))))))
theorem w_fX12_mixed {σ0 : zSt} {σ : zSt} (h : zKeM σ0 σ) : zpc (fX12_mixed σ) (fun r => zKeM σ0 (r)) := by
  unfold fX12_mixed
  exact zpc_ck (zpc_if (fun _ => zpc_ck (w_fX12_mixed_26 h)) (fun _ => w_fX12_mixed_26 h))
theorem w_fX12_asks_48 {σ0 : zSt} {σ : zSt} {s0 : Int32} (h : zKeM σ0 σ) : zpc (fX12_asks_48 σ s0) (fun r => zKeM σ0 (r.1)) := by
  unfold fX12_asks_48
  exact zpc_ck (zpc_some h)
theorem w_fX12_asks_47 {σ0 : zSt} {σ : zSt} (h : zKeM σ0 σ) : zpc (fX12_asks_47 σ) (fun r => zKeM σ0 (r.1)) := by
  unfold fX12_asks_47
  exact w_fX12_asks_48 h
theorem w_fX12_asks_43 {σ0 : zSt} {σ : zSt} (h : zKeM σ0 σ) : zpc (fX12_asks_43 σ) (fun r => zKeM σ0 (r.1)) := by
  unfold fX12_asks_43
  exact w_fX12_asks_48 h
theorem w_fX12_asks_22 {σ0 : zSt} {σ : zSt} (h : zKeM σ0 σ) : zpc (fX12_asks_22 σ) (fun r => zKeM σ0 (r.1)) := by
  unfold fX12_asks_22
  exact zpc_bi (w_fX12_bit h) (fun σ1 v2 hσ1 => zpc_if (fun _ => zpc_ck (zpc_if (fun _ => w_fX12_asks_43 hσ1) (fun _ => w_fX12_asks_47 hσ1))) (fun _ => w_fX12_asks_47 hσ1))
theorem w_fX12_asks {σ0 : zSt} {σ : zSt} (h : zKeM σ0 σ) : zpc (fX12_asks σ) (fun r => zKeM σ0 (r.1)) := by
  unfold fX12_asks
  exact zpc_bi (w_fX12_bit h) (fun σ3 v4 hσ3 => zpc_if (fun _ => zpc_ck (zpc_if (fun _ => w_fX12_asks_43 hσ3) (fun _ => w_fX12_asks_22 hσ3))) (fun _ => w_fX12_asks_22 hσ3))
theorem w_fX12_once_377_body {σ0 : zSt} {k377 : zSt → Int64 → Option (zSt)} (hk377 : ∀ (y0 : zSt) (y1 : Int64), zKeM σ0 y0 → zpc (k377 y0 y1) (fun r => zKeM σ0 (r))) {σ : zSt} {x5 : Int64} (h : zKeM σ0 σ) : zpc (fX12_once_377_body k377 σ x5) (fun r => zKeM σ0 (r)) := by
  unfold fX12_once_377_body
  exact zpc_ck (zpc_ck (zpc_if (fun _ => zpc_some h) (fun _ => zpc_bu (w_fX12_mixed h) (fun σ1 hσ1 => zpc_bv (fun v2 _ => hk377 _ _ hσ1)))))
theorem w_fX12_once_377 {σ0 : zSt} : ∀ (n : Nat) (y0 : zSt) (y1 : Int64), zKeM σ0 y0 → zpc (fX12_once_377 n y0 y1) (fun r => zKeM σ0 (r)) := by
  intro n
  induction n with
  | zero => intro y0 y1 h; exact zpc_none
  | succ n ih => intro y0 y1 h; exact w_fX12_once_377_body ih h
theorem w_fX12_once_341_body {σ0 : zSt} {k341 : zSt → Int64 → Int64 → Option (zSt)} (hk341 : ∀ (y0 : zSt) (y1 : Int64) (y2 : Int64), zKeM σ0 y0 → zpc (k341 y0 y1 y2) (fun r => zKeM σ0 (r))) {σ : zSt} {x3 : Int64} {x5 : Int64} (h : zKeM σ0 σ) : zpc (fX12_once_341_body k341 σ x3 x5) (fun r => zKeM σ0 (r)) := by
  unfold fX12_once_341_body
  exact zpc_ck (zpc_ck (zpc_if (fun _ => zpc_ck (zpc_bv (fun v3 _ => w_fX12_once_377 _ _ _ h))) (fun _ => zpc_bu (w_fX12_waves h) (fun σ4 hσ4 => zpc_bv (fun v5 _ => hk341 _ _ _ hσ4)))))
theorem w_fX12_once_341 {σ0 : zSt} : ∀ (n : Nat) (y0 : zSt) (y1 : Int64) (y2 : Int64), zKeM σ0 y0 → zpc (fX12_once_341 n y0 y1 y2) (fun r => zKeM σ0 (r)) := by
  intro n
  induction n with
  | zero => intro y0 y1 y2 h; exact zpc_none
  | succ n ih => intro y0 y1 y2 h; exact w_fX12_once_341_body ih h
theorem w_fX12_once_305_body {σ0 : zSt} {k305 : zSt → Int64 → Int64 → Option (zSt)} (hk305 : ∀ (y0 : zSt) (y1 : Int64) (y2 : Int64), zKeM σ0 y0 → zpc (k305 y0 y1 y2) (fun r => zKeM σ0 (r))) {σ : zSt} {x3 : Int64} {x5 : Int64} (h : zKeM σ0 σ) : zpc (fX12_once_305_body k305 σ x3 x5) (fun r => zKeM σ0 (r)) := by
  unfold fX12_once_305_body
  exact zpc_ck (zpc_ck (zpc_if (fun _ => zpc_ck (zpc_bv (fun v6 _ => w_fX12_once_341 _ _ _ _ h))) (fun _ => zpc_bu (w_fX12_sample h) (fun σ7 hσ7 => zpc_bv (fun v8 _ => hk305 _ _ _ hσ7)))))
theorem w_fX12_once_305 {σ0 : zSt} : ∀ (n : Nat) (y0 : zSt) (y1 : Int64) (y2 : Int64), zKeM σ0 y0 → zpc (fX12_once_305 n y0 y1 y2) (fun r => zKeM σ0 (r)) := by
  intro n
  induction n with
  | zero => intro y0 y1 y2 h; exact zpc_none
  | succ n ih => intro y0 y1 y2 h; exact w_fX12_once_305_body ih h
theorem w_fX12_once_298 {σ0 : zSt} {σ : zSt} {x3 : Int64} (h : zKeM σ0 σ) : zpc (fX12_once_298 σ x3) (fun r => zKeM σ0 (r)) := by
  unfold fX12_once_298
  exact zpc_ck (zpc_bv (fun v9 _ => w_fX12_once_305 _ _ _ _ h))
theorem w_fX12_once_229 {σ0 : zSt} {σ : zSt} {x2 : Int32} (h : zKeM σ0 σ) : zpc (fX12_once_229 σ x2) (fun r => zKeM σ0 (r)) := by
  unfold fX12_once_229
  exact zpc_ck (zpc_ck (zpc_bs (zKeM.wl h) (fun σ10 hσ10 => zpc_ck (zpc_bv (fun v11 _ => zpc_ck (zpc_ck (zpc_bs (zKeM.wl hσ10) (fun σ12 hσ12 => zpc_ck (zpc_ck (zpc_bs (zKeM.wi hσ12 (by decide)) (fun σ13 hσ13 => zpc_ck (zpc_if (fun _ => w_fX12_once_298 hσ13) (fun _ => zpc_ck (zpc_ck (zpc_bs (zKeM.wi hσ13 (by decide)) (fun σ14 hσ14 => zpc_bu (w_fX12_ends hσ14) (fun σ15 hσ15 => w_fX12_once_298 hσ15)))))))))))))))))
theorem w_fX12_once_204 {σ0 : zSt} {σ : zSt} (h : zKeM σ0 σ) : zpc (fX12_once_204 σ) (fun r => zKeM σ0 (r)) := by
  unfold fX12_once_204
  exact zpc_ck (zpc_if (fun _ => zpc_bu (w_fX12_grows h) (fun σ18 hσ18 => w_fX12_once_229 hσ18)) (fun _ => zpc_bi (w_fX12_instruction h) (fun σ16 v17 hσ16 => w_fX12_once_229 hσ16)))
theorem w_fX12_once_200 {σ0 : zSt} {σ : zSt} {s0 : Int32} (h : zKeM σ0 σ) : zpc (fX12_once_200 σ s0) (fun r => zKeM σ0 (r)) := by
  unfold fX12_once_200
  exact w_fX12_once_229 h
theorem w_fX12_once_179 {σ0 : zSt} {σ : zSt} {s0 : Int32} (h : zKeM σ0 σ) : zpc (fX12_once_179 σ s0) (fun r => zKeM σ0 (r)) := by
  unfold fX12_once_179
  exact zpc_bu (w_fX12_call h) (fun σ19 hσ19 => zpc_ck (zpc_if (fun _ => w_fX12_once_200 hσ19) (fun _ => w_fX12_once_200 hσ19)))
theorem w_fX12_once_102 {σ0 : zSt} {σ : zSt} {x1 : Int32} (h : zKeM σ0 σ) : zpc (fX12_once_102 σ x1) (fun r => zKeM σ0 (r)) := by
  unfold fX12_once_102
  exact zpc_ck (zpc_if (fun _ => zpc_if (fun _ => w_fX12_once_204 h) (fun _ => zpc_bi (w_fX12_asks h) (fun σ20 v21 hσ20 => zpc_if (fun _ => w_fX12_once_204 hσ20) (fun _ => zpc_ck (zpc_bs (zKeM.wi hσ20 (by decide)) (fun σ22 hσ22 => zpc_ck (zpc_bs (zKeM.wi hσ22 (by decide)) (fun σ23 hσ23 => zpc_bu (w_fX12_answers hσ23) (fun σ24 hσ24 => zpc_ck (zpc_if (fun _ => zpc_ck (zpc_bi (w_fX12_word hσ24) (fun σ25 v26 hσ25 => w_fX12_once_179 hσ25))) (fun _ => w_fX12_once_179 hσ24))))))))))) (fun _ => w_fX12_once_204 h))
theorem w_fX12_once_46 {σ0 : zSt} {σ : zSt} {s0 : Int32} (h : zKeM σ0 σ) : zpc (fX12_once_46 σ s0) (fun r => zKeM σ0 (r)) := by
  unfold fX12_once_46
  exact zpc_ck (zpc_bs (zKeM.wi h (by decide)) (fun σ27 hσ27 => zpc_ck (zpc_if (fun _ => zpc_if (fun _ => w_fX12_once_102 hσ27) (fun _ => zpc_ck (zpc_bs (zKeM.wi hσ27 (by decide)) (fun σ28 hσ28 => zpc_ck (zpc_bs (zKeM.wi hσ28 (by decide)) (fun σ29 hσ29 => zpc_bu (w_fX12_answers hσ29) (fun σ30 hσ30 => zpc_bu (w_fX12_call hσ30) (fun σ31 hσ31 => w_fX12_once_229 hσ31)))))))) (fun _ => w_fX12_once_102 hσ27))))
theorem w_fX12_once {σ0 : zSt} {σ : zSt} (h : zKeM σ0 σ) : zpc (fX12_once σ) (fun r => zKeM σ0 (r)) := by
  unfold fX12_once
  exact zpc_ck (zpc_ck (zpc_ck (zpc_bs (zKeM.wi h (by decide)) (fun σ32 hσ32 => zpc_bs (zKeM.wl hσ32) (fun σ33 hσ33 => zpc_ck (zpc_if (fun _ => w_fX12_once_46 hσ33) (fun _ => w_fX12_once_46 hσ33)))))))
theorem w_fX12_isStop_2_body {σ0 : zSt} {k2 : zSt → Int32 → Int32 → Option (zSt × Int32)} (hk2 : ∀ (y0 : zSt) (y1 : Int32) (y2 : Int32), zKeM σ0 y0 → zpc (k2 y0 y1 y2) (fun r => zKeM σ0 (r.1))) {σ : zSt} {x1 : Int32} {x2 : Int32} (h : zKeM σ0 σ) : zpc (fX12_isStop_2_body k2 σ x1 x2) (fun r => zKeM σ0 (r.1)) := by
  unfold fX12_isStop_2_body
  exact zpc_ck (zpc_if (fun _ => zpc_ck (zpc_some h)) (fun _ => zpc_ck (zpc_if (fun _ => zpc_ck (zpc_some h)) (fun _ => zpc_bv (fun v1 _ => hk2 _ _ _ h)))))
theorem w_fX12_isStop_2 {σ0 : zSt} : ∀ (n : Nat) (y0 : zSt) (y1 : Int32) (y2 : Int32), zKeM σ0 y0 → zpc (fX12_isStop_2 n y0 y1 y2) (fun r => zKeM σ0 (r.1)) := by
  intro n
  induction n with
  | zero => intro y0 y1 y2 h; exact zpc_none
  | succ n ih => intro y0 y1 y2 h; exact w_fX12_isStop_2_body ih h
theorem w_fX12_isStop {σ0 : zSt} {σ : zSt} {x1 : Int32} (h : zKeM σ0 σ) : zpc (fX12_isStop σ x1) (fun r => zKeM σ0 (r.1)) := by
  unfold fX12_isStop
  exact w_fX12_isStop_2 _ _ _ _ h
theorem w_fX12_step_62 {σ0 : zSt} {σ : zSt} {x2 : Int32} (h : zKeM σ0 σ) : zpc (fX12_step_62 σ x2) (fun r => zKeM σ0 (r.1)) := by
  unfold fX12_step_62
  exact zpc_some h
theorem w_fX12_step_52 {σ0 : zSt} {k29 : zSt → Int32 → Int32 → Option (zSt × Int32)} (hk29 : ∀ (y0 : zSt) (y1 : Int32) (y2 : Int32), zKeM σ0 y0 → zpc (k29 y0 y1 y2) (fun r => zKeM σ0 (r.1))) {σ : zSt} {x1 : Int32} {x2 : Int32} (h : zKeM σ0 σ) : zpc (fX12_step_52 k29 σ x1 x2) (fun r => zKeM σ0 (r.1)) := by
  unfold fX12_step_52
  exact zpc_bu (w_fX12_once h) (fun σ1 hσ1 => zpc_bv (fun v2 _ => hk29 _ _ _ hσ1))
theorem w_fX12_step_29_body {σ0 : zSt} {k29 : zSt → Int32 → Int32 → Option (zSt × Int32)} (hk29 : ∀ (y0 : zSt) (y1 : Int32) (y2 : Int32), zKeM σ0 y0 → zpc (k29 y0 y1 y2) (fun r => zKeM σ0 (r.1))) {σ : zSt} {x1 : Int32} {x2 : Int32} (h : zKeM σ0 σ) : zpc (fX12_step_29_body k29 σ x1 x2) (fun r => zKeM σ0 (r.1)) := by
  unfold fX12_step_29_body
  exact zpc_if (fun _ => w_fX12_step_62 h) (fun _ => zpc_if (fun _ => w_fX12_step_52 hk29 h) (fun _ => zpc_ck (zpc_bi (w_fX12_isStop h) (fun σ3 v4 hσ3 => zpc_if (fun _ => w_fX12_step_52 hk29 hσ3) (fun _ => w_fX12_step_62 hσ3)))))
theorem w_fX12_step_29 {σ0 : zSt} : ∀ (n : Nat) (y0 : zSt) (y1 : Int32) (y2 : Int32), zKeM σ0 y0 → zpc (fX12_step_29 n y0 y1 y2) (fun r => zKeM σ0 (r.1)) := by
  intro n
  induction n with
  | zero => intro y0 y1 y2 h; exact zpc_none
  | succ n ih => intro y0 y1 y2 h; exact w_fX12_step_29_body ih h
theorem w_fX12_step_18 {σ0 : zSt} {σ : zSt} {x1 : Int32} {s0 : Int32} (h : zKeM σ0 σ) : zpc (fX12_step_18 σ x1 s0) (fun r => zKeM σ0 (r.1)) := by
  unfold fX12_step_18
  exact zpc_bi (w_fX12_fails h) (fun σ5 v6 hσ5 => zpc_if (fun _ => w_fX12_step_29 _ _ _ _ hσ5) (fun _ => zpc_some hσ5))
theorem w_fX12_step {σ0 : zSt} {σ : zSt} {x1 : Int32} (h : zKeM σ0 σ) : zpc (fX12_step σ x1) (fun r => zKeM σ0 (r.1)) := by
  unfold fX12_step
  exact zpc_bi (w_fX12_within h) (fun σ7 v8 hσ7 => zpc_if (fun _ => w_fX12_step_18 hσ7) (fun _ => w_fX12_step_18 hσ7))
theorem w_fX12_picture_80 {σ0 : zSt} {σ : zSt} {x4 : Int32} (h : zKeM σ0 σ) : zpc (fX12_picture_80 σ x4) (fun r => zKeM σ0 (r.1)) := by
  unfold fX12_picture_80
  exact zpc_some h
theorem w_fX12_picture_70 {σ0 : zSt} {k40 : zSt → Int64 → Int32 → Option (zSt × Int32)} (hk40 : ∀ (y0 : zSt) (y1 : Int64) (y2 : Int32), zKeM σ0 y0 → zpc (k40 y0 y1 y2) (fun r => zKeM σ0 (r.1))) {σ : zSt} {x2 : Int64} {x4 : Int32} (h : zKeM σ0 σ) : zpc (fX12_picture_70 k40 σ x2 x4) (fun r => zKeM σ0 (r.1)) := by
  unfold fX12_picture_70
  exact zpc_bu (w_fX12_once h) (fun σ1 hσ1 => zpc_bv (fun v2 _ => hk40 _ _ _ hσ1))
theorem w_fX12_picture_40_body {σ0 : zSt} {k40 : zSt → Int64 → Int32 → Option (zSt × Int32)} (hk40 : ∀ (y0 : zSt) (y1 : Int64) (y2 : Int32), zKeM σ0 y0 → zpc (k40 y0 y1 y2) (fun r => zKeM σ0 (r.1))) {σ : zSt} {x2 : Int64} {x4 : Int32} (h : zKeM σ0 σ) : zpc (fX12_picture_40_body k40 σ x2 x4) (fun r => zKeM σ0 (r.1)) := by
  unfold fX12_picture_40_body
  exact zpc_ck (zpc_if (fun _ => w_fX12_picture_80 h) (fun _ => zpc_if (fun _ => w_fX12_picture_70 hk40 h) (fun _ => zpc_ck (zpc_bi (w_fX12_isStop h) (fun σ3 v4 hσ3 => zpc_if (fun _ => w_fX12_picture_70 hk40 hσ3) (fun _ => w_fX12_picture_80 hσ3))))))
theorem w_fX12_picture_40 {σ0 : zSt} : ∀ (n : Nat) (y0 : zSt) (y1 : Int64) (y2 : Int32), zKeM σ0 y0 → zpc (fX12_picture_40 n y0 y1 y2) (fun r => zKeM σ0 (r.1)) := by
  intro n
  induction n with
  | zero => intro y0 y1 y2 h; exact zpc_none
  | succ n ih => intro y0 y1 y2 h; exact w_fX12_picture_40_body ih h
theorem w_fX12_picture_18 {σ0 : zSt} {σ : zSt} {x1 : Int32} {s0 : Int32} (h : zKeM σ0 σ) : zpc (fX12_picture_18 σ x1 s0) (fun r => zKeM σ0 (r.1)) := by
  unfold fX12_picture_18
  exact zpc_bi (w_fX12_fails h) (fun σ5 v6 hσ5 => zpc_if (fun _ => zpc_ck (zpc_bv (fun v7 _ => w_fX12_picture_40 _ _ _ _ hσ5))) (fun _ => zpc_some hσ5))
theorem w_fX12_picture {σ0 : zSt} {σ : zSt} {x1 : Int32} (h : zKeM σ0 σ) : zpc (fX12_picture σ x1) (fun r => zKeM σ0 (r.1)) := by
  unfold fX12_picture
  exact zpc_bi (w_fX12_within h) (fun σ8 v9 hσ8 => zpc_if (fun _ => w_fX12_picture_18 hσ8) (fun _ => w_fX12_picture_18 hσ8))
theorem w_fX12_dot_103 {σ0 : zSt} {σ : zSt} {s0 : Int32} (h : zKeM σ0 σ) : zpc (fX12_dot_103 σ s0) (fun r => zKeM σ0 (r.1)) := by
  unfold fX12_dot_103
  exact zpc_ck (zpc_some h)
theorem w_fX12_dot_63 {σ0 : zSt} {σ : zSt} {x1 : Int32} {x2 : Int32} {x3 : Int32} {s0 : Int32} (h : zKeM σ0 σ) : zpc (fX12_dot_63 σ x1 x2 x3 s0) (fun r => zKeM σ0 (r.1)) := by
  unfold fX12_dot_63
  exact zpc_bi (w_fX12_fails h) (fun σ1 v2 hσ1 => zpc_if (fun _ => zpc_if (fun _ => w_fX12_dot_103 hσ1) (fun _ => w_fX12_dot_103 hσ1)) (fun _ => zpc_some hσ1))
theorem w_fX12_dot_58 {σ0 : zSt} {σ : zSt} {x1 : Int32} {x2 : Int32} {x3 : Int32} (h : zKeM σ0 σ) : zpc (fX12_dot_58 σ x1 x2 x3) (fun r => zKeM σ0 (r.1)) := by
  unfold fX12_dot_58
  exact w_fX12_dot_63 h
theorem w_fX12_dot_55 {σ0 : zSt} {σ : zSt} {x1 : Int32} {x2 : Int32} {x3 : Int32} {s0 : Int32} {s1 : Int32} (h : zKeM σ0 σ) : zpc (fX12_dot_55 σ x1 x2 x3 s0 s1) (fun r => zKeM σ0 (r.1)) := by
  unfold fX12_dot_55
  exact zpc_if (fun _ => w_fX12_dot_63 h) (fun _ => w_fX12_dot_58 h)
theorem w_fX12_dot_37 {σ0 : zSt} {σ : zSt} {x1 : Int32} {x2 : Int32} {x3 : Int32} {s0 : Int32} {s1 : Int32} (h : zKeM σ0 σ) : zpc (fX12_dot_37 σ x1 x2 x3 s0 s1) (fun r => zKeM σ0 (r.1)) := by
  unfold fX12_dot_37
  exact zpc_if (fun _ => w_fX12_dot_58 h) (fun _ => zpc_if (fun _ => zpc_bi (w_fX12_height h) (fun σ3 v4 hσ3 => w_fX12_dot_55 hσ3)) (fun _ => w_fX12_dot_55 h))
theorem w_fX12_dot_13 {σ0 : zSt} {σ : zSt} {x1 : Int32} {x2 : Int32} {s0 : Int32} (h : zKeM σ0 σ) : zpc (fX12_dot_13 σ x1 x2 s0) (fun r => zKeM σ0 (r.1)) := by
  unfold fX12_dot_13
  exact zpc_if (fun _ => w_fX12_dot_58 h) (fun _ => zpc_if (fun _ => w_fX12_dot_58 h) (fun _ => zpc_if (fun _ => w_fX12_dot_37 h) (fun _ => w_fX12_dot_37 h)))
theorem w_fX12_dot {σ0 : zSt} {σ : zSt} {x1 : Int32} {x2 : Int32} (h : zKeM σ0 σ) : zpc (fX12_dot σ x1 x2) (fun r => zKeM σ0 (r.1)) := by
  unfold fX12_dot
  exact zpc_if (fun _ => w_fX12_dot_13 h) (fun _ => w_fX12_dot_13 h)
theorem w_fX12_row_111 {σ0 : zSt} {k56 : zSt → Int32 → Int32 → Int32 → Int32 → Option (zSt × Int32)} (hk56 : ∀ (y0 : zSt) (y1 : Int32) (y2 : Int32) (y3 : Int32) (y4 : Int32), zKeM σ0 y0 → zpc (k56 y0 y1 y2 y3 y4) (fun r => zKeM σ0 (r.1))) {σ : zSt} {x1 : Int32} {x2 : Int32} {x4 : Int32} {s0 : Int32} {s2 : Int32} (h : zKeM σ0 σ) : zpc (fX12_row_111 k56 σ x1 x2 x4 s0 s2) (fun r => zKeM σ0 (r.1)) := by
  unfold fX12_row_111
  exact zpc_ck (zpc_bv (fun v1 _ => zpc_bv (fun v2 _ => hk56 _ _ _ _ _ h)))
theorem w_fX12_row_71 {σ0 : zSt} {k56 : zSt → Int32 → Int32 → Int32 → Int32 → Option (zSt × Int32)} (hk56 : ∀ (y0 : zSt) (y1 : Int32) (y2 : Int32) (y3 : Int32) (y4 : Int32), zKeM σ0 y0 → zpc (k56 y0 y1 y2 y3 y4) (fun r => zKeM σ0 (r.1))) {σ : zSt} {x1 : Int32} {x2 : Int32} {x3 : Int32} {x4 : Int32} {s0 : Int32} {s1 : Int32} (h : zKeM σ0 σ) : zpc (fX12_row_71 k56 σ x1 x2 x3 x4 s0 s1) (fun r => zKeM σ0 (r.1)) := by
  unfold fX12_row_71
  exact zpc_if (fun _ => zpc_some h) (fun _ => zpc_if (fun _ => w_fX12_row_111 hk56 h) (fun _ => w_fX12_row_111 hk56 h))
theorem w_fX12_row_56_body {σ0 : zSt} {k56 : zSt → Int32 → Int32 → Int32 → Int32 → Option (zSt × Int32)} (hk56 : ∀ (y0 : zSt) (y1 : Int32) (y2 : Int32) (y3 : Int32) (y4 : Int32), zKeM σ0 y0 → zpc (k56 y0 y1 y2 y3 y4) (fun r => zKeM σ0 (r.1))) {σ : zSt} {x1 : Int32} {x2 : Int32} {x3 : Int32} {x4 : Int32} (h : zKeM σ0 σ) : zpc (fX12_row_56_body k56 σ x1 x2 x3 x4) (fun r => zKeM σ0 (r.1)) := by
  unfold fX12_row_56_body
  exact zpc_if (fun _ => w_fX12_row_71 hk56 h) (fun _ => w_fX12_row_71 hk56 h)
theorem w_fX12_row_56 {σ0 : zSt} : ∀ (n : Nat) (y0 : zSt) (y1 : Int32) (y2 : Int32) (y3 : Int32) (y4 : Int32), zKeM σ0 y0 → zpc (fX12_row_56 n y0 y1 y2 y3 y4) (fun r => zKeM σ0 (r.1)) := by
  intro n
  induction n with
  | zero => intro y0 y1 y2 y3 y4 h; exact zpc_none
  | succ n ih => intro y0 y1 y2 y3 y4 h; exact w_fX12_row_56_body ih h
theorem w_fX12_row_42 {σ0 : zSt} {σ : zSt} {x1 : Int32} {x2 : Int32} {s0 : Int32} (h : zKeM σ0 σ) : zpc (fX12_row_42 σ x1 x2 s0) (fun r => zKeM σ0 (r.1)) := by
  unfold fX12_row_42
  exact zpc_bi (w_fX12_fails h) (fun σ3 v4 hσ3 => zpc_if (fun _ => w_fX12_row_56 _ _ _ _ _ _ hσ3) (fun _ => zpc_some hσ3))
theorem w_fX12_row_37 {σ0 : zSt} {σ : zSt} {x1 : Int32} {x2 : Int32} (h : zKeM σ0 σ) : zpc (fX12_row_37 σ x1 x2) (fun r => zKeM σ0 (r.1)) := by
  unfold fX12_row_37
  exact w_fX12_row_42 h
theorem w_fX12_row_34 {σ0 : zSt} {σ : zSt} {x1 : Int32} {x2 : Int32} {s0 : Int32} {s1 : Int32} (h : zKeM σ0 σ) : zpc (fX12_row_34 σ x1 x2 s0 s1) (fun r => zKeM σ0 (r.1)) := by
  unfold fX12_row_34
  exact zpc_if (fun _ => w_fX12_row_42 h) (fun _ => w_fX12_row_37 h)
theorem w_fX12_row_13 {σ0 : zSt} {σ : zSt} {x1 : Int32} {s0 : Int32} (h : zKeM σ0 σ) : zpc (fX12_row_13 σ x1 s0) (fun r => zKeM σ0 (r.1)) := by
  unfold fX12_row_13
  exact zpc_if (fun _ => w_fX12_row_37 h) (fun _ => zpc_if (fun _ => zpc_bi (w_fX12_height h) (fun σ5 v6 hσ5 => w_fX12_row_34 hσ5)) (fun _ => w_fX12_row_34 h))
theorem w_fX12_row {σ0 : zSt} {σ : zSt} {x1 : Int32} (h : zKeM σ0 σ) : zpc (fX12_row σ x1) (fun r => zKeM σ0 (r.1)) := by
  unfold fX12_row
  exact zpc_if (fun _ => w_fX12_row_13 h) (fun _ => w_fX12_row_13 h)
theorem w_fX12_hear_16 {σ0 : zSt} {σ : zSt} {s0 : Int32} (h : zKeM σ0 σ) : zpc (fX12_hear_16 σ s0) (fun r => zKeM σ0 (r.1)) := by
  unfold fX12_hear_16
  exact zpc_bi (w_fX12_fails h) (fun σ1 v2 hσ1 => zpc_if (fun _ => zpc_ck (zpc_ck (zpc_bv (fun v3 _ => zpc_ck (zpc_ck (zpc_ck (zpc_bs (zKeM.wi hσ1 (by decide)) (fun σ4 hσ4 => zpc_ck (zpc_ck (zpc_bs (zKeM.wi hσ4 (by decide)) (fun σ5 hσ5 => zpc_some hσ5))))))))))) (fun _ => zpc_some hσ1))
theorem w_fX12_hear {σ0 : zSt} {σ : zSt} (h : zKeM σ0 σ) : zpc (fX12_hear σ) (fun r => zKeM σ0 (r.1)) := by
  unfold fX12_hear
  exact zpc_ck (zpc_if (fun _ => w_fX12_hear_16 h) (fun _ => w_fX12_hear_16 h))
theorem w_fX12_sound_52 {σ0 : zSt} {σ : zSt} {s0 : Int32} (h : zKeM σ0 σ) : zpc (fX12_sound_52 σ s0) (fun r => zKeM σ0 (r.1)) := by
  unfold fX12_sound_52
  exact zpc_some h
theorem w_fX12_sound_18 {σ0 : zSt} {σ : zSt} {x1 : Int32} {s0 : Int32} (h : zKeM σ0 σ) : zpc (fX12_sound_18 σ x1 s0) (fun r => zKeM σ0 (r.1)) := by
  unfold fX12_sound_18
  exact zpc_bi (w_fX12_fails h) (fun σ1 v2 hσ1 => zpc_if (fun _ => zpc_if (fun _ => zpc_ck (w_fX12_sound_52 hσ1)) (fun _ => zpc_ck (w_fX12_sound_52 hσ1))) (fun _ => zpc_some hσ1))
theorem w_fX12_sound {σ0 : zSt} {σ : zSt} {x1 : Int32} (h : zKeM σ0 σ) : zpc (fX12_sound σ x1) (fun r => zKeM σ0 (r.1)) := by
  unfold fX12_sound
  exact zpc_bi (w_fX12_within h) (fun σ3 v4 hσ3 => zpc_if (fun _ => w_fX12_sound_18 hσ3) (fun _ => w_fX12_sound_18 hσ3))
theorem w_fX12_reset {σ0 : zSt} {σ : zSt} (h : zKeM σ0 σ) : zpc (fX12_reset σ) (fun r => zKeM σ0 (r)) := by
  unfold fX12_reset
  exact zpc_bs (zKeM.w0 h (by decide)) (fun σ1 hσ1 => zpc_bu (w_fX12_anew hσ1) (fun σ2 hσ2 => zpc_some hσ2))
theorem w_fX12_pause {σ0 : zSt} {σ : zSt} (h : zKeM σ0 σ) : zpc (fX12_pause σ) (fun r => zKeM σ0 (r.1)) := by
  unfold fX12_pause
  exact zpc_bs (zKeM.w0 h (by decide)) (fun σ1 hσ1 => zpc_if (fun _ => zpc_ck (zpc_some hσ1)) (fun _ => zpc_ck (zpc_bs (zKeM.wi hσ1 (by decide)) (fun σ2 hσ2 => zpc_ck (zpc_some hσ2)))))
theorem w_fX12_press_28 {σ0 : zSt} {σ : zSt} {x1 : Int32} {x2 : Int32} {s0 : Int32} (h : zKeM σ0 σ) : zpc (fX12_press_28 σ x1 x2 s0) (fun r => zKeM σ0 (r)) := by
  unfold fX12_press_28
  exact zpc_bi (w_fX12_fails h) (fun σ1 v2 hσ1 => zpc_if (fun _ => zpc_ck (zpc_bs (zKeM.wi hσ1 (by decide)) (fun σ3 hσ3 => zpc_some hσ3))) (fun _ => zpc_some hσ1))
theorem w_fX12_press_23 {σ0 : zSt} {σ : zSt} {x1 : Int32} {x2 : Int32} (h : zKeM σ0 σ) : zpc (fX12_press_23 σ x1 x2) (fun r => zKeM σ0 (r)) := by
  unfold fX12_press_23
  exact w_fX12_press_28 h
theorem w_fX12_press {σ0 : zSt} {σ : zSt} {x1 : Int32} {x2 : Int32} (h : zKeM σ0 σ) : zpc (fX12_press σ x1 x2) (fun r => zKeM σ0 (r)) := by
  unfold fX12_press
  exact zpc_bi (w_fX12_within h) (fun σ4 v5 hσ4 => zpc_if (fun _ => w_fX12_press_23 hσ4) (fun _ => zpc_bi (w_fX12_within hσ4) (fun σ6 v7 hσ6 => zpc_if (fun _ => w_fX12_press_23 hσ6) (fun _ => w_fX12_press_28 hσ6))))
theorem w_fX12_start_20 {σ0 : zSt} {σ : zSt} {s0 : Int32} {s1 : Int32} (h : zKeM σ0 σ) : zpc (fX12_start_20 σ s0 s1) (fun r => zKeM σ0 (r)) := by
  unfold fX12_start_20
  exact zpc_ck (zpc_bs (zKeM.wi h (by decide)) (fun σ1 hσ1 => zpc_some hσ1))
theorem w_fX12_start {σ0 : zSt} {σ : zSt} {x1 : Int32} (h : zKeM σ0 σ) : zpc (fX12_start σ x1) (fun r => zKeM σ0 (r)) := by
  unfold fX12_start
  exact zpc_bs (zKeM.w0 h (by decide)) (fun σ2 hσ2 => zpc_if (fun _ => w_fX12_start_20 hσ2) (fun _ => w_fX12_start_20 hσ2))
theorem w_fX12_line_72 {σ0 : zSt} {σ : zSt} (h : zKeM σ0 σ) : zpc (fX12_line_72 σ) (fun r => zKeM σ0 (r)) := by
  unfold fX12_line_72
  exact zpc_some h
theorem w_fX12_line_47 {σ0 : zSt} {σ : zSt} {x1 : Int32} {x3 : Int32} {s0 : Int32} {s1 : Int32} (h : zKeM σ0 σ) : zpc (fX12_line_47 σ x1 x3 s0 s1) (fun r => zKeM σ0 (r)) := by
  unfold fX12_line_47
  exact zpc_ck (zpc_bs (zKeM.wi h (by decide)) (fun σ1 hσ1 => zpc_if (fun _ => zpc_bi (w_fX12_lineAt hσ1) (fun σ2 v3 hσ2 => zpc_if (fun _ => zpc_bi (w_fX12_hCount hσ2) (fun σ4 v5 hσ4 => zpc_ck (zpc_bs (zKeM.wi hσ4 (by decide)) (fun σ6 hσ6 => w_fX12_line_72 hσ6)))) (fun _ => w_fX12_line_72 hσ2))) (fun _ => w_fX12_line_72 hσ1)))
theorem w_fX12_line_16 {σ0 : zSt} {σ : zSt} {x1 : Int32} {x2 : Int32} {s0 : Int32} (h : zKeM σ0 σ) : zpc (fX12_line_16 σ x1 x2 s0) (fun r => zKeM σ0 (r)) := by
  unfold fX12_line_16
  exact zpc_bi (w_fX12_fails h) (fun σ7 v8 hσ7 => zpc_if (fun _ => zpc_bi (w_fX12_lineAt hσ7) (fun σ9 v10 hσ9 => zpc_if (fun _ => w_fX12_line_47 hσ9) (fun _ => w_fX12_line_47 hσ9))) (fun _ => zpc_some hσ7))
theorem w_fX12_line {σ0 : zSt} {σ : zSt} {x1 : Int32} {x2 : Int32} (h : zKeM σ0 σ) : zpc (fX12_line σ x1 x2) (fun r => zKeM σ0 (r)) := by
  unfold fX12_line
  exact zpc_bi (w_fX12_within h) (fun σ11 v12 hσ11 => zpc_if (fun _ => w_fX12_line_16 hσ11) (fun _ => w_fX12_line_16 hσ11))
theorem w_fX12_stop_64 {σ0 : zSt} {σ : zSt} (h : zKeM σ0 σ) : zpc (fX12_stop_64 σ) (fun r => zKeM σ0 (r.1)) := by
  unfold fX12_stop_64
  exact zpc_some h
theorem w_fX12_stop_168 {σ0 : zSt} {σ : zSt} (h : zKeM σ0 σ) : zpc (fX12_stop_168 σ) (fun r => zKeM σ0 (r.1)) := by
  unfold fX12_stop_168
  exact zpc_ck (zpc_some h)
theorem w_fX12_stop_112_body {σ0 : zSt} {k112 : zSt → Int32 → Int32 → Option (zSt × Int32)} (hk112 : ∀ (y0 : zSt) (y1 : Int32) (y2 : Int32), zKeM σ0 y0 → zpc (k112 y0 y1 y2) (fun r => zKeM σ0 (r.1))) {σ : zSt} {x1 : Int32} {x4 : Int32} (h : zKeM σ0 σ) : zpc (fX12_stop_112_body k112 σ x1 x4) (fun r => zKeM σ0 (r.1)) := by
  unfold fX12_stop_112_body
  exact zpc_ck (zpc_if (fun _ => zpc_ck (zpc_ck (zpc_ck (zpc_bs (zKeM.wi h (by decide)) (fun σ1 hσ1 => zpc_ck (zpc_ck (zpc_bs (zKeM.wi hσ1 (by decide)) (fun σ2 hσ2 => w_fX12_stop_168 hσ2)))))))) (fun _ => zpc_bv (fun v3 _ => hk112 _ _ _ h)))
theorem w_fX12_stop_112 {σ0 : zSt} : ∀ (n : Nat) (y0 : zSt) (y1 : Int32) (y2 : Int32), zKeM σ0 y0 → zpc (fX12_stop_112 n y0 y1 y2) (fun r => zKeM σ0 (r.1)) := by
  intro n
  induction n with
  | zero => intro y0 y1 y2 h; exact zpc_none
  | succ n ih => intro y0 y1 y2 h; exact w_fX12_stop_112_body ih h
theorem w_fX12_stop_101 {σ0 : zSt} {σ : zSt} {x1 : Int32} {x2 : Int32} {x3 : Int32} (h : zKeM σ0 σ) : zpc (fX12_stop_101 σ x1 x2 x3) (fun r => zKeM σ0 (r.1)) := by
  unfold fX12_stop_101
  exact zpc_if (fun _ => zpc_if (fun _ => w_fX12_stop_168 h) (fun _ => w_fX12_stop_112 _ _ _ _ h)) (fun _ => w_fX12_stop_168 h)
theorem w_fX12_stop_57 {σ0 : zSt} {σ : zSt} {x1 : Int32} {x2 : Int32} {x3 : Int32} {s0 : Int32} (h : zKeM σ0 σ) : zpc (fX12_stop_57 σ x1 x2 x3 s0) (fun r => zKeM σ0 (r.1)) := by
  unfold fX12_stop_57
  exact zpc_bi (w_fX12_fails h) (fun σ4 v5 hσ4 => zpc_if (fun _ => zpc_if (fun _ => w_fX12_stop_101 hσ4) (fun _ => zpc_if (fun _ => zpc_ck (zpc_ck (zpc_bs (zKeM.wi hσ4 (by decide)) (fun σ6 hσ6 => zpc_ck (zpc_ck (zpc_bs (zKeM.wi hσ6 (by decide)) (fun σ7 hσ7 => w_fX12_stop_101 hσ7))))))) (fun _ => w_fX12_stop_101 hσ4))) (fun _ => w_fX12_stop_64 hσ4))
theorem w_fX12_stop_56 {σ0 : zSt} {σ : zSt} {x1 : Int32} {x2 : Int32} {x3 : Int32} (h : zKeM σ0 σ) : zpc (fX12_stop_56 σ x1 x2 x3) (fun r => zKeM σ0 (r.1)) := by
  unfold fX12_stop_56
  exact w_fX12_stop_57 h
theorem w_fX12_stop_24 {σ0 : zSt} {σ : zSt} {x1 : Int32} {x2 : Int32} {x3 : Int32} {s0 : Int32} (h : zKeM σ0 σ) : zpc (fX12_stop_24 σ x1 x2 x3 s0) (fun r => zKeM σ0 (r.1)) := by
  unfold fX12_stop_24
  exact zpc_bi (w_fX12_fails h) (fun σ8 v9 hσ8 => zpc_if (fun _ => zpc_if (fun _ => w_fX12_stop_56 hσ8) (fun _ => zpc_if (fun _ => zpc_ck (zpc_if (fun _ => w_fX12_stop_57 hσ8) (fun _ => w_fX12_stop_56 hσ8))) (fun _ => w_fX12_stop_56 hσ8))) (fun _ => w_fX12_stop_64 hσ8))
theorem w_fX12_stop {σ0 : zSt} {σ : zSt} {x1 : Int32} {x2 : Int32} (h : zKeM σ0 σ) : zpc (fX12_stop σ x1 x2) (fun r => zKeM σ0 (r.1)) := by
  unfold fX12_stop
  exact zpc_bi (w_fX12_isStop h) (fun σ10 v11 hσ10 => zpc_bi (w_fX12_within hσ10) (fun σ12 v13 hσ12 => zpc_if (fun _ => w_fX12_stop_24 hσ12) (fun _ => w_fX12_stop_24 hσ12)))
theorem w_fX12_save_196_body {σ0 : zSt} {k196 : zSt → Int32 → Option (zSt)} (hk196 : ∀ (y0 : zSt) (y1 : Int32), zKeM σ0 y0 → zpc (k196 y0 y1) (fun r => zKeM σ0 (r))) {σ : zSt} {x1 : Int32} (h : zKeM σ0 σ) : zpc (fX12_save_196_body k196 σ x1) (fun r => zKeM σ0 (r)) := by
  unfold fX12_save_196_body
  exact zpc_if (fun _ => zpc_some h) (fun _ => zpc_ck (zpc_ck (zpc_bs (zKeM.wl h) (fun σ1 hσ1 => zpc_ck (zpc_ck (zpc_bs (zKeM.wl hσ1) (fun σ2 hσ2 => zpc_bv (fun v3 _ => hk196 _ _ hσ2))))))))
theorem w_fX12_save_196 {σ0 : zSt} : ∀ (n : Nat) (y0 : zSt) (y1 : Int32), zKeM σ0 y0 → zpc (fX12_save_196 n y0 y1) (fun r => zKeM σ0 (r)) := by
  intro n
  induction n with
  | zero => intro y0 y1 h; exact zpc_none
  | succ n ih => intro y0 y1 h; exact w_fX12_save_196_body ih h
theorem w_fX12_save_170_body {σ0 : zSt} {k170 : zSt → Int32 → Option (zSt)} (hk170 : ∀ (y0 : zSt) (y1 : Int32), zKeM σ0 y0 → zpc (k170 y0 y1) (fun r => zKeM σ0 (r))) {σ : zSt} {x1 : Int32} (h : zKeM σ0 σ) : zpc (fX12_save_170_body k170 σ x1) (fun r => zKeM σ0 (r)) := by
  unfold fX12_save_170_body
  exact zpc_if (fun _ => w_fX12_save_196 _ _ _ h) (fun _ => zpc_ck (zpc_ck (zpc_bs (zKeM.wi h (by decide)) (fun σ4 hσ4 => zpc_bv (fun v5 _ => hk170 _ _ hσ4)))))
theorem w_fX12_save_170 {σ0 : zSt} : ∀ (n : Nat) (y0 : zSt) (y1 : Int32), zKeM σ0 y0 → zpc (fX12_save_170 n y0 y1) (fun r => zKeM σ0 (r)) := by
  intro n
  induction n with
  | zero => intro y0 y1 h; exact zpc_none
  | succ n ih => intro y0 y1 h; exact w_fX12_save_170_body ih h
theorem w_fX12_save_144_body {σ0 : zSt} {k144 : zSt → Int32 → Option (zSt)} (hk144 : ∀ (y0 : zSt) (y1 : Int32), zKeM σ0 y0 → zpc (k144 y0 y1) (fun r => zKeM σ0 (r))) {σ : zSt} {x1 : Int32} (h : zKeM σ0 σ) : zpc (fX12_save_144_body k144 σ x1) (fun r => zKeM σ0 (r)) := by
  unfold fX12_save_144_body
  exact zpc_if (fun _ => w_fX12_save_170 _ _ _ h) (fun _ => zpc_ck (zpc_ck (zpc_bs (zKeM.wi h (by decide)) (fun σ6 hσ6 => zpc_bv (fun v7 _ => hk144 _ _ hσ6)))))
theorem w_fX12_save_144 {σ0 : zSt} : ∀ (n : Nat) (y0 : zSt) (y1 : Int32), zKeM σ0 y0 → zpc (fX12_save_144 n y0 y1) (fun r => zKeM σ0 (r)) := by
  intro n
  induction n with
  | zero => intro y0 y1 h; exact zpc_none
  | succ n ih => intro y0 y1 h; exact w_fX12_save_144_body ih h
theorem w_fX12_save_117_body {σ0 : zSt} {k117 : zSt → Int32 → Option (zSt)} (hk117 : ∀ (y0 : zSt) (y1 : Int32), zKeM σ0 y0 → zpc (k117 y0 y1) (fun r => zKeM σ0 (r))) {σ : zSt} {x1 : Int32} (h : zKeM σ0 σ) : zpc (fX12_save_117_body k117 σ x1) (fun r => zKeM σ0 (r)) := by
  unfold fX12_save_117_body
  exact zpc_if (fun _ => w_fX12_save_144 _ _ _ h) (fun _ => zpc_ck (zpc_ck (zpc_bs (zKeM.wi h (by decide)) (fun σ8 hσ8 => zpc_bv (fun v9 _ => hk117 _ _ hσ8)))))
theorem w_fX12_save_117 {σ0 : zSt} : ∀ (n : Nat) (y0 : zSt) (y1 : Int32), zKeM σ0 y0 → zpc (fX12_save_117 n y0 y1) (fun r => zKeM σ0 (r)) := by
  intro n
  induction n with
  | zero => intro y0 y1 h; exact zpc_none
  | succ n ih => intro y0 y1 h; exact w_fX12_save_117_body ih h
theorem w_fX12_save_91_body {σ0 : zSt} {k91 : zSt → Int32 → Option (zSt)} (hk91 : ∀ (y0 : zSt) (y1 : Int32), zKeM σ0 y0 → zpc (k91 y0 y1) (fun r => zKeM σ0 (r))) {σ : zSt} {x1 : Int32} (h : zKeM σ0 σ) : zpc (fX12_save_91_body k91 σ x1) (fun r => zKeM σ0 (r)) := by
  unfold fX12_save_91_body
  exact zpc_if (fun _ => w_fX12_save_117 _ _ _ h) (fun _ => zpc_ck (zpc_ck (zpc_bs (zKeM.wi h (by decide)) (fun σ10 hσ10 => zpc_bv (fun v11 _ => hk91 _ _ hσ10)))))
theorem w_fX12_save_91 {σ0 : zSt} : ∀ (n : Nat) (y0 : zSt) (y1 : Int32), zKeM σ0 y0 → zpc (fX12_save_91 n y0 y1) (fun r => zKeM σ0 (r)) := by
  intro n
  induction n with
  | zero => intro y0 y1 h; exact zpc_none
  | succ n ih => intro y0 y1 h; exact w_fX12_save_91_body ih h
theorem w_fX12_save_64_body {σ0 : zSt} {k64 : zSt → Int32 → Option (zSt)} (hk64 : ∀ (y0 : zSt) (y1 : Int32), zKeM σ0 y0 → zpc (k64 y0 y1) (fun r => zKeM σ0 (r))) {σ : zSt} {x1 : Int32} (h : zKeM σ0 σ) : zpc (fX12_save_64_body k64 σ x1) (fun r => zKeM σ0 (r)) := by
  unfold fX12_save_64_body
  exact zpc_if (fun _ => w_fX12_save_91 _ _ _ h) (fun _ => zpc_ck (zpc_ck (zpc_bs (zKeM.wi h (by decide)) (fun σ12 hσ12 => zpc_bv (fun v13 _ => hk64 _ _ hσ12)))))
theorem w_fX12_save_64 {σ0 : zSt} : ∀ (n : Nat) (y0 : zSt) (y1 : Int32), zKeM σ0 y0 → zpc (fX12_save_64 n y0 y1) (fun r => zKeM σ0 (r)) := by
  intro n
  induction n with
  | zero => intro y0 y1 h; exact zpc_none
  | succ n ih => intro y0 y1 h; exact w_fX12_save_64_body ih h
theorem w_fX12_save_39_body {σ0 : zSt} {k39 : zSt → Int32 → Option (zSt)} (hk39 : ∀ (y0 : zSt) (y1 : Int32), zKeM σ0 y0 → zpc (k39 y0 y1) (fun r => zKeM σ0 (r))) {σ : zSt} {x1 : Int32} (h : zKeM σ0 σ) : zpc (fX12_save_39_body k39 σ x1) (fun r => zKeM σ0 (r)) := by
  unfold fX12_save_39_body
  exact zpc_if (fun _ => w_fX12_save_64 _ _ _ h) (fun _ => zpc_ck (zpc_ck (zpc_bs (zKeM.wl h) (fun σ14 hσ14 => zpc_bv (fun v15 _ => hk39 _ _ hσ14)))))
theorem w_fX12_save_39 {σ0 : zSt} : ∀ (n : Nat) (y0 : zSt) (y1 : Int32), zKeM σ0 y0 → zpc (fX12_save_39 n y0 y1) (fun r => zKeM σ0 (r)) := by
  intro n
  induction n with
  | zero => intro y0 y1 h; exact zpc_none
  | succ n ih => intro y0 y1 h; exact w_fX12_save_39_body ih h
theorem w_fX12_save_12_body {σ0 : zSt} {k12 : zSt → Int32 → Option (zSt)} (hk12 : ∀ (y0 : zSt) (y1 : Int32), zKeM σ0 y0 → zpc (k12 y0 y1) (fun r => zKeM σ0 (r))) {σ : zSt} {x1 : Int32} (h : zKeM σ0 σ) : zpc (fX12_save_12_body k12 σ x1) (fun r => zKeM σ0 (r)) := by
  unfold fX12_save_12_body
  exact zpc_if (fun _ => w_fX12_save_39 _ _ _ h) (fun _ => zpc_ck (zpc_ck (zpc_bs (zKeM.wi h (by decide)) (fun σ16 hσ16 => zpc_bv (fun v17 _ => hk12 _ _ hσ16)))))
theorem w_fX12_save_12 {σ0 : zSt} : ∀ (n : Nat) (y0 : zSt) (y1 : Int32), zKeM σ0 y0 → zpc (fX12_save_12 n y0 y1) (fun r => zKeM σ0 (r)) := by
  intro n
  induction n with
  | zero => intro y0 y1 h; exact zpc_none
  | succ n ih => intro y0 y1 h; exact w_fX12_save_12_body ih h
theorem w_fX12_save {σ0 : zSt} {σ : zSt} (h : zKeM σ0 σ) : zpc (fX12_save σ) (fun r => zKeM σ0 (r)) := by
  unfold fX12_save
  exact zpc_bs (zKeM.w0 h (by decide)) (fun σ18 hσ18 => zpc_ck (zpc_bs (zKeM.w0 hσ18 (by decide)) (fun σ19 hσ19 => w_fX12_save_12 _ _ _ hσ19)))
theorem w_fX12_restore_207_body {σ0 : zSt} {k207 : zSt → Int32 → Option (zSt)} (hk207 : ∀ (y0 : zSt) (y1 : Int32), zKeM σ0 y0 → zpc (k207 y0 y1) (fun r => zKeM σ0 (r))) {σ : zSt} {x1 : Int32} (h : zKeM σ0 σ) : zpc (fX12_restore_207_body k207 σ x1) (fun r => zKeM σ0 (r)) := by
  unfold fX12_restore_207_body
  exact zpc_if (fun _ => zpc_some h) (fun _ => zpc_ck (zpc_ck (zpc_bs (zKeM.wl h) (fun σ1 hσ1 => zpc_ck (zpc_ck (zpc_bs (zKeM.wl hσ1) (fun σ2 hσ2 => zpc_bv (fun v3 _ => hk207 _ _ hσ2))))))))
theorem w_fX12_restore_207 {σ0 : zSt} : ∀ (n : Nat) (y0 : zSt) (y1 : Int32), zKeM σ0 y0 → zpc (fX12_restore_207 n y0 y1) (fun r => zKeM σ0 (r)) := by
  intro n
  induction n with
  | zero => intro y0 y1 h; exact zpc_none
  | succ n ih => intro y0 y1 h; exact w_fX12_restore_207_body ih h
theorem w_fX12_restore_181_body {σ0 : zSt} {k181 : zSt → Int32 → Option (zSt)} (hk181 : ∀ (y0 : zSt) (y1 : Int32), zKeM σ0 y0 → zpc (k181 y0 y1) (fun r => zKeM σ0 (r))) {σ : zSt} {x1 : Int32} (h : zKeM σ0 σ) : zpc (fX12_restore_181_body k181 σ x1) (fun r => zKeM σ0 (r)) := by
  unfold fX12_restore_181_body
  exact zpc_if (fun _ => w_fX12_restore_207 _ _ _ h) (fun _ => zpc_ck (zpc_ck (zpc_bs (zKeM.wi h (by decide)) (fun σ4 hσ4 => zpc_bv (fun v5 _ => hk181 _ _ hσ4)))))
theorem w_fX12_restore_181 {σ0 : zSt} : ∀ (n : Nat) (y0 : zSt) (y1 : Int32), zKeM σ0 y0 → zpc (fX12_restore_181 n y0 y1) (fun r => zKeM σ0 (r)) := by
  intro n
  induction n with
  | zero => intro y0 y1 h; exact zpc_none
  | succ n ih => intro y0 y1 h; exact w_fX12_restore_181_body ih h
theorem w_fX12_restore_155_body {σ0 : zSt} {k155 : zSt → Int32 → Option (zSt)} (hk155 : ∀ (y0 : zSt) (y1 : Int32), zKeM σ0 y0 → zpc (k155 y0 y1) (fun r => zKeM σ0 (r))) {σ : zSt} {x1 : Int32} (h : zKeM σ0 σ) : zpc (fX12_restore_155_body k155 σ x1) (fun r => zKeM σ0 (r)) := by
  unfold fX12_restore_155_body
  exact zpc_if (fun _ => w_fX12_restore_181 _ _ _ h) (fun _ => zpc_ck (zpc_ck (zpc_bs (zKeM.wi h (by decide)) (fun σ6 hσ6 => zpc_bv (fun v7 _ => hk155 _ _ hσ6)))))
theorem w_fX12_restore_155 {σ0 : zSt} : ∀ (n : Nat) (y0 : zSt) (y1 : Int32), zKeM σ0 y0 → zpc (fX12_restore_155 n y0 y1) (fun r => zKeM σ0 (r)) := by
  intro n
  induction n with
  | zero => intro y0 y1 h; exact zpc_none
  | succ n ih => intro y0 y1 h; exact w_fX12_restore_155_body ih h
theorem w_fX12_restore_128_body {σ0 : zSt} {k128 : zSt → Int32 → Option (zSt)} (hk128 : ∀ (y0 : zSt) (y1 : Int32), zKeM σ0 y0 → zpc (k128 y0 y1) (fun r => zKeM σ0 (r))) {σ : zSt} {x1 : Int32} (h : zKeM σ0 σ) : zpc (fX12_restore_128_body k128 σ x1) (fun r => zKeM σ0 (r)) := by
  unfold fX12_restore_128_body
  exact zpc_if (fun _ => w_fX12_restore_155 _ _ _ h) (fun _ => zpc_ck (zpc_ck (zpc_bs (zKeM.wi h (by decide)) (fun σ8 hσ8 => zpc_bv (fun v9 _ => hk128 _ _ hσ8)))))
theorem w_fX12_restore_128 {σ0 : zSt} : ∀ (n : Nat) (y0 : zSt) (y1 : Int32), zKeM σ0 y0 → zpc (fX12_restore_128 n y0 y1) (fun r => zKeM σ0 (r)) := by
  intro n
  induction n with
  | zero => intro y0 y1 h; exact zpc_none
  | succ n ih => intro y0 y1 h; exact w_fX12_restore_128_body ih h
theorem w_fX12_restore_102_body {σ0 : zSt} {k102 : zSt → Int32 → Option (zSt)} (hk102 : ∀ (y0 : zSt) (y1 : Int32), zKeM σ0 y0 → zpc (k102 y0 y1) (fun r => zKeM σ0 (r))) {σ : zSt} {x1 : Int32} (h : zKeM σ0 σ) : zpc (fX12_restore_102_body k102 σ x1) (fun r => zKeM σ0 (r)) := by
  unfold fX12_restore_102_body
  exact zpc_if (fun _ => w_fX12_restore_128 _ _ _ h) (fun _ => zpc_ck (zpc_ck (zpc_bs (zKeM.wi h (by decide)) (fun σ10 hσ10 => zpc_bv (fun v11 _ => hk102 _ _ hσ10)))))
theorem w_fX12_restore_102 {σ0 : zSt} : ∀ (n : Nat) (y0 : zSt) (y1 : Int32), zKeM σ0 y0 → zpc (fX12_restore_102 n y0 y1) (fun r => zKeM σ0 (r)) := by
  intro n
  induction n with
  | zero => intro y0 y1 h; exact zpc_none
  | succ n ih => intro y0 y1 h; exact w_fX12_restore_102_body ih h
theorem w_fX12_restore_75_body {σ0 : zSt} {k75 : zSt → Int32 → Option (zSt)} (hk75 : ∀ (y0 : zSt) (y1 : Int32), zKeM σ0 y0 → zpc (k75 y0 y1) (fun r => zKeM σ0 (r))) {σ : zSt} {x1 : Int32} (h : zKeM σ0 σ) : zpc (fX12_restore_75_body k75 σ x1) (fun r => zKeM σ0 (r)) := by
  unfold fX12_restore_75_body
  exact zpc_if (fun _ => w_fX12_restore_102 _ _ _ h) (fun _ => zpc_ck (zpc_ck (zpc_bs (zKeM.wi h (by decide)) (fun σ12 hσ12 => zpc_bv (fun v13 _ => hk75 _ _ hσ12)))))
theorem w_fX12_restore_75 {σ0 : zSt} : ∀ (n : Nat) (y0 : zSt) (y1 : Int32), zKeM σ0 y0 → zpc (fX12_restore_75 n y0 y1) (fun r => zKeM σ0 (r)) := by
  intro n
  induction n with
  | zero => intro y0 y1 h; exact zpc_none
  | succ n ih => intro y0 y1 h; exact w_fX12_restore_75_body ih h
theorem w_fX12_restore_50_body {σ0 : zSt} {k50 : zSt → Int32 → Option (zSt)} (hk50 : ∀ (y0 : zSt) (y1 : Int32), zKeM σ0 y0 → zpc (k50 y0 y1) (fun r => zKeM σ0 (r))) {σ : zSt} {x1 : Int32} (h : zKeM σ0 σ) : zpc (fX12_restore_50_body k50 σ x1) (fun r => zKeM σ0 (r)) := by
  unfold fX12_restore_50_body
  exact zpc_if (fun _ => w_fX12_restore_75 _ _ _ h) (fun _ => zpc_ck (zpc_ck (zpc_bs (zKeM.wl h) (fun σ14 hσ14 => zpc_bv (fun v15 _ => hk50 _ _ hσ14)))))
theorem w_fX12_restore_50 {σ0 : zSt} : ∀ (n : Nat) (y0 : zSt) (y1 : Int32), zKeM σ0 y0 → zpc (fX12_restore_50 n y0 y1) (fun r => zKeM σ0 (r)) := by
  intro n
  induction n with
  | zero => intro y0 y1 h; exact zpc_none
  | succ n ih => intro y0 y1 h; exact w_fX12_restore_50_body ih h
theorem w_fX12_restore_23_body {σ0 : zSt} {k23 : zSt → Int32 → Option (zSt)} (hk23 : ∀ (y0 : zSt) (y1 : Int32), zKeM σ0 y0 → zpc (k23 y0 y1) (fun r => zKeM σ0 (r))) {σ : zSt} {x1 : Int32} (h : zKeM σ0 σ) : zpc (fX12_restore_23_body k23 σ x1) (fun r => zKeM σ0 (r)) := by
  unfold fX12_restore_23_body
  exact zpc_if (fun _ => w_fX12_restore_50 _ _ _ h) (fun _ => zpc_ck (zpc_ck (zpc_bs (zKeM.wi h (by decide)) (fun σ16 hσ16 => zpc_bv (fun v17 _ => hk23 _ _ hσ16)))))
theorem w_fX12_restore_23 {σ0 : zSt} : ∀ (n : Nat) (y0 : zSt) (y1 : Int32), zKeM σ0 y0 → zpc (fX12_restore_23 n y0 y1) (fun r => zKeM σ0 (r)) := by
  intro n
  induction n with
  | zero => intro y0 y1 h; exact zpc_none
  | succ n ih => intro y0 y1 h; exact w_fX12_restore_23_body ih h
theorem w_fX12_restore_13 {σ0 : zSt} {σ : zSt} {s0 : Int32} (h : zKeM σ0 σ) : zpc (fX12_restore_13 σ s0) (fun r => zKeM σ0 (r)) := by
  unfold fX12_restore_13
  exact zpc_bi (w_fX12_fails h) (fun σ18 v19 hσ18 => zpc_if (fun _ => w_fX12_restore_23 _ _ _ hσ18) (fun _ => zpc_some hσ18))
theorem w_fX12_restore {σ0 : zSt} {σ : zSt} (h : zKeM σ0 σ) : zpc (fX12_restore σ) (fun r => zKeM σ0 (r)) := by
  unfold fX12_restore
  exact zpc_if (fun _ => w_fX12_restore_13 h) (fun _ => w_fX12_restore_13 h)
theorem w_fX12_register_35 {σ0 : zSt} {σ : zSt} {s0 : Int32} (h : zKeM σ0 σ) : zpc (fX12_register_35 σ s0) (fun r => zKeM σ0 (r.1)) := by
  unfold fX12_register_35
  exact zpc_some h
theorem w_fX12_register_18 {σ0 : zSt} {σ : zSt} {x1 : Int32} {s0 : Int32} (h : zKeM σ0 σ) : zpc (fX12_register_18 σ x1 s0) (fun r => zKeM σ0 (r.1)) := by
  unfold fX12_register_18
  exact zpc_bi (w_fX12_fails h) (fun σ1 v2 hσ1 => zpc_if (fun _ => zpc_ck (w_fX12_register_35 hσ1)) (fun _ => w_fX12_register_35 hσ1))
theorem w_fX12_register {σ0 : zSt} {σ : zSt} {x1 : Int32} (h : zKeM σ0 σ) : zpc (fX12_register σ x1) (fun r => zKeM σ0 (r.1)) := by
  unfold fX12_register
  exact zpc_bi (w_fX12_within h) (fun σ3 v4 hσ3 => zpc_if (fun _ => w_fX12_register_18 hσ3) (fun _ => w_fX12_register_18 hσ3))
theorem w_fX12_set_105 {σ0 : zSt} {σ : zSt} (h : zKeM σ0 σ) : zpc (fX12_set_105 σ) (fun r => zKeM σ0 (r)) := by
  unfold fX12_set_105
  exact zpc_some h
theorem w_fX12_set_51 {σ0 : zSt} {σ : zSt} {s0 : Int32} {s1 : Int32} (h : zKeM σ0 σ) : zpc (fX12_set_51 σ s0 s1) (fun r => zKeM σ0 (r)) := by
  unfold fX12_set_51
  exact zpc_ck (zpc_bs (zKeM.wi h (by decide)) (fun σ1 hσ1 => w_fX12_set_105 hσ1))
theorem w_fX12_set_104 {σ0 : zSt} {σ : zSt} {s0 : Int32} {s1 : Int32} (h : zKeM σ0 σ) : zpc (fX12_set_104 σ s0 s1) (fun r => zKeM σ0 (r)) := by
  unfold fX12_set_104
  exact zpc_ck (zpc_bs (zKeM.wi h (by decide)) (fun σ2 hσ2 => w_fX12_set_105 hσ2))
theorem w_fX12_set_18 {σ0 : zSt} {σ : zSt} {x1 : Int32} {x2 : Int32} {s0 : Int32} (h : zKeM σ0 σ) : zpc (fX12_set_18 σ x1 x2 s0) (fun r => zKeM σ0 (r)) := by
  unfold fX12_set_18
  exact zpc_bi (w_fX12_fails h) (fun σ3 v4 hσ3 => zpc_if (fun _ => zpc_if (fun _ => zpc_if (fun _ => w_fX12_set_51 hσ3) (fun _ => w_fX12_set_51 hσ3)) (fun _ => zpc_if (fun _ => zpc_if (fun _ => zpc_if (fun _ => w_fX12_set_104 hσ3) (fun _ => w_fX12_set_104 hσ3)) (fun _ => w_fX12_set_104 hσ3)) (fun _ => w_fX12_set_104 hσ3))) (fun _ => zpc_some hσ3))
theorem w_fX12_set {σ0 : zSt} {σ : zSt} {x1 : Int32} {x2 : Int32} (h : zKeM σ0 σ) : zpc (fX12_set σ x1 x2) (fun r => zKeM σ0 (r)) := by
  unfold fX12_set
  exact zpc_bi (w_fX12_within h) (fun σ5 v6 hσ5 => zpc_if (fun _ => w_fX12_set_18 hσ5) (fun _ => w_fX12_set_18 hσ5))
theorem w_fX12_peek {σ0 : zSt} {σ : zSt} {x1 : Int32} (h : zKeM σ0 σ) : zpc (fX12_peek σ x1) (fun r => zKeM σ0 (r.1)) := by
  unfold fX12_peek
  exact zpc_bs (zKeM.w0 h (by decide)) (fun σ1 hσ1 => zpc_bi (w_fX12_read hσ1) (fun σ2 v3 hσ2 => zpc_some hσ2))
theorem w_fX12_poke {σ0 : zSt} {σ : zSt} {x1 : Int32} {x2 : Int32} (h : zKeM σ0 σ) : zpc (fX12_poke σ x1 x2) (fun r => zKeM σ0 (r)) := by
  unfold fX12_poke
  exact zpc_bs (zKeM.w0 h (by decide)) (fun σ1 hσ1 => zpc_bu (w_fX12_write hσ1) (fun σ2 hσ2 => zpc_some hσ2))
theorem w_fX12_in {σ0 : zSt} {σ : zSt} {x1 : Int32} (h : zKeM σ0 σ) : zpc (fX12_in σ x1) (fun r => zKeM σ0 (r.1)) := by
  unfold fX12_in
  exact zpc_bs (zKeM.w0 h (by decide)) (fun σ1 hσ1 => zpc_bi (w_fX12_port hσ1) (fun σ2 v3 hσ2 => zpc_some hσ2))
theorem w_fX12_out {σ0 : zSt} {σ : zSt} {x1 : Int32} {x2 : Int32} (h : zKeM σ0 σ) : zpc (fX12_out σ x1 x2) (fun r => zKeM σ0 (r)) := by
  unfold fX12_out
  exact zpc_bs (zKeM.w0 h (by decide)) (fun σ1 hσ1 => zpc_bu (w_fX12_portTo hσ1) (fun σ2 hσ2 => zpc_some hσ2))
theorem w_fX12_battery_39 {σ0 : zSt} {σ : zSt} {s0 : Int32} (h : zKeM σ0 σ) : zpc (fX12_battery_39 σ s0) (fun r => zKeM σ0 (r.1)) := by
  unfold fX12_battery_39
  exact zpc_some h
theorem w_fX12_battery_18 {σ0 : zSt} {σ : zSt} {x1 : Int32} {s0 : Int32} (h : zKeM σ0 σ) : zpc (fX12_battery_18 σ x1 s0) (fun r => zKeM σ0 (r.1)) := by
  unfold fX12_battery_18
  exact zpc_bi (w_fX12_fails h) (fun σ1 v2 hσ1 => zpc_if (fun _ => zpc_ck (w_fX12_battery_39 hσ1)) (fun _ => w_fX12_battery_39 hσ1))
theorem w_fX12_battery {σ0 : zSt} {σ : zSt} {x1 : Int32} (h : zKeM σ0 σ) : zpc (fX12_battery σ x1) (fun r => zKeM σ0 (r.1)) := by
  unfold fX12_battery
  exact zpc_bi (w_fX12_within h) (fun σ3 v4 hσ3 => zpc_if (fun _ => w_fX12_battery_18 hσ3) (fun _ => w_fX12_battery_18 hσ3))
theorem w_fX12_wipe_7_body {σ0 : zSt} {k7 : zSt → Int32 → Option (zSt)} (hk7 : ∀ (y0 : zSt) (y1 : Int32), zKeM σ0 y0 → zpc (k7 y0 y1) (fun r => zKeM σ0 (r))) {σ : zSt} {x1 : Int32} (h : zKeM σ0 σ) : zpc (fX12_wipe_7_body k7 σ x1) (fun r => zKeM σ0 (r)) := by
  unfold fX12_wipe_7_body
  exact zpc_if (fun _ => zpc_some h) (fun _ => zpc_ck (zpc_bs (zKeM.wi h (by decide)) (fun σ1 hσ1 => zpc_bv (fun v2 _ => hk7 _ _ hσ1))))
theorem w_fX12_wipe_7 {σ0 : zSt} : ∀ (n : Nat) (y0 : zSt) (y1 : Int32), zKeM σ0 y0 → zpc (fX12_wipe_7 n y0 y1) (fun r => zKeM σ0 (r)) := by
  intro n
  induction n with
  | zero => intro y0 y1 h; exact zpc_none
  | succ n ih => intro y0 y1 h; exact w_fX12_wipe_7_body ih h
theorem w_fX12_wipe {σ0 : zSt} {σ : zSt} (h : zKeM σ0 σ) : zpc (fX12_wipe σ) (fun r => zKeM σ0 (r)) := by
  unfold fX12_wipe
  exact zpc_bs (zKeM.w0 h (by decide)) (fun σ3 hσ3 => w_fX12_wipe_7 _ _ _ hσ3)
theorem w_fX12_video_11_body {σ0 : zSt} {k11 : zSt → Int32 → Int64 → Int32 → Option (zSt × Int64)} (hk11 : ∀ (y0 : zSt) (y1 : Int32) (y2 : Int64) (y3 : Int32), zKeM σ0 y0 → zpc (k11 y0 y1 y2 y3) (fun r => zKeM σ0 (r.1))) {σ : zSt} {x1 : Int32} {x2 : Int64} {x4 : Int32} (h : zKeM σ0 σ) : zpc (fX12_video_11_body k11 σ x1 x2 x4) (fun r => zKeM σ0 (r.1)) := by
  unfold fX12_video_11_body
  exact zpc_if (fun _ => zpc_some h) (fun _ => zpc_bi (w_fX12_video8 h) (fun σ1 v2 hσ1 => zpc_bv (fun v3 _ => zpc_bv (fun v4 _ => hk11 _ _ _ _ hσ1))))
theorem w_fX12_video_11 {σ0 : zSt} : ∀ (n : Nat) (y0 : zSt) (y1 : Int32) (y2 : Int64) (y3 : Int32), zKeM σ0 y0 → zpc (fX12_video_11 n y0 y1 y2 y3) (fun r => zKeM σ0 (r.1)) := by
  intro n
  induction n with
  | zero => intro y0 y1 y2 y3 h; exact zpc_none
  | succ n ih => intro y0 y1 y2 y3 h; exact w_fX12_video_11_body ih h
theorem w_fX12_video {σ0 : zSt} {σ : zSt} {x1 : Int32} (h : zKeM σ0 σ) : zpc (fX12_video σ x1) (fun r => zKeM σ0 (r.1)) := by
  unfold fX12_video
  exact zpc_bs (zKeM.w0 h (by decide)) (fun σ5 hσ5 => w_fX12_video_11 _ _ _ _ _ hσ5)
theorem w_fX12_chip_136 {σ0 : zSt} {σ : zSt} {s0 : Int32} (h : zKeM σ0 σ) : zpc (fX12_chip_136 σ s0) (fun r => zKeM σ0 (r.1)) := by
  unfold fX12_chip_136
  exact zpc_some h
theorem w_fX12_chip_32 {σ0 : zSt} {σ : zSt} {x1 : Int32} {s0 : Int32} (h : zKeM σ0 σ) : zpc (fX12_chip_32 σ x1 s0) (fun r => zKeM σ0 (r.1)) := by
  unfold fX12_chip_32
  exact zpc_bi (w_fX12_fails h) (fun σ1 v2 hσ1 => zpc_if (fun _ => zpc_if (fun _ => zpc_if (fun _ => zpc_if (fun _ => zpc_bi (w_fX12_asks hσ1) (fun σ3 v4 hσ3 => zpc_if (fun _ => w_fX12_chip_136 hσ3) (fun _ => w_fX12_chip_136 hσ3))) (fun _ => zpc_if (fun _ => zpc_ck (zpc_some hσ1)) (fun _ => zpc_if (fun _ => zpc_ck (zpc_some hσ1)) (fun _ => zpc_if (fun _ => zpc_ck (zpc_some hσ1)) (fun _ => zpc_if (fun _ => zpc_ck (zpc_some hσ1)) (fun _ => zpc_if (fun _ => zpc_bi (w_fX12_mode hσ1) (fun σ5 v6 hσ5 => zpc_some hσ5)) (fun _ => zpc_if (fun _ => zpc_bi (w_fX12_height hσ1) (fun σ7 v8 hσ7 => zpc_some hσ7)) (fun _ => zpc_if (fun _ => zpc_bi (w_fX12_hCount hσ1) (fun σ9 v10 hσ9 => zpc_some hσ9)) (fun _ => zpc_bi (w_fX12_vCount hσ1) (fun σ11 v12 hσ11 => zpc_some hσ11)))))))))) (fun _ => zpc_ck (zpc_some hσ1))) (fun _ => zpc_ck (zpc_some hσ1))) (fun _ => zpc_some hσ1))
theorem w_fX12_chip_31 {σ0 : zSt} {σ : zSt} {x1 : Int32} (h : zKeM σ0 σ) : zpc (fX12_chip_31 σ x1) (fun r => zKeM σ0 (r.1)) := by
  unfold fX12_chip_31
  exact w_fX12_chip_32 h
theorem w_fX12_chip {σ0 : zSt} {σ : zSt} {x1 : Int32} (h : zKeM σ0 σ) : zpc (fX12_chip σ x1) (fun r => zKeM σ0 (r.1)) := by
  unfold fX12_chip
  exact zpc_bi (w_fX12_within h) (fun σ13 v14 hσ13 => zpc_if (fun _ => zpc_bi (w_fX12_within hσ13) (fun σ15 v16 hσ15 => zpc_if (fun _ => w_fX12_chip_32 hσ15) (fun _ => w_fX12_chip_31 hσ15))) (fun _ => w_fX12_chip_31 hσ13))
theorem w_fX12_trace_50 {σ0 : zSt} {σ : zSt} {s0 : Int32} (h : zKeM σ0 σ) : zpc (fX12_trace_50 σ s0) (fun r => zKeM σ0 (r.1)) := by
  unfold fX12_trace_50
  exact zpc_some h
theorem w_fX12_trace_27 {σ0 : zSt} {σ : zSt} (h : zKeM σ0 σ) : zpc (fX12_trace_27 σ) (fun r => zKeM σ0 (r.1)) := by
  unfold fX12_trace_27
  exact w_fX12_trace_50 h
theorem w_fX12_trace {σ0 : zSt} {σ : zSt} {x1 : Int32} (h : zKeM σ0 σ) : zpc (fX12_trace σ x1) (fun r => zKeM σ0 (r.1)) := by
  unfold fX12_trace
  exact zpc_bs (zKeM.w0 h (by decide)) (fun σ1 hσ1 => zpc_bi (w_fX12_within hσ1) (fun σ2 v3 hσ2 => zpc_if (fun _ => w_fX12_trace_27 hσ2) (fun _ => zpc_if (fun _ => zpc_ck (zpc_ck (w_fX12_trace_50 hσ2))) (fun _ => w_fX12_trace_27 hσ2))))
theorem w_fX12_look_116 {σ0 : zSt} {σ : zSt} {x1 : Int32} (h : zKeM σ0 σ) : zpc (fX12_look_116 σ x1) (fun r => zKeM σ0 (r.1)) := by
  unfold fX12_look_116
  exact zpc_ck (zpc_some h)
theorem w_fX12_look_169 {σ0 : zSt} {σ : zSt} {x1 : Int32} (h : zKeM σ0 σ) : zpc (fX12_look_169 σ x1) (fun r => zKeM σ0 (r.1)) := by
  unfold fX12_look_169
  exact zpc_ck (zpc_some h)
theorem w_fX12_look_222 {σ0 : zSt} {σ : zSt} {s0 : Int64} (h : zKeM σ0 σ) : zpc (fX12_look_222 σ s0) (fun r => zKeM σ0 (r.1)) := by
  unfold fX12_look_222
  exact zpc_some h
theorem w_fX12_look_18 {σ0 : zSt} {σ : zSt} {x1 : Int32} {s0 : Int32} (h : zKeM σ0 σ) : zpc (fX12_look_18 σ x1 s0) (fun r => zKeM σ0 (r.1)) := by
  unfold fX12_look_18
  exact zpc_bi (w_fX12_fails h) (fun σ1 v2 hσ1 => zpc_if (fun _ => zpc_if (fun _ => w_fX12_look_116 hσ1) (fun _ => zpc_if (fun _ => w_fX12_look_116 hσ1) (fun _ => zpc_if (fun _ => w_fX12_look_116 hσ1) (fun _ => zpc_if (fun _ => zpc_ck (zpc_some hσ1)) (fun _ => zpc_if (fun _ => zpc_ck (zpc_some hσ1)) (fun _ => zpc_if (fun _ => zpc_some hσ1) (fun _ => zpc_if (fun _ => zpc_ck (zpc_some hσ1)) (fun _ => zpc_if (fun _ => zpc_some hσ1) (fun _ => zpc_if (fun _ => zpc_ck (zpc_some hσ1)) (fun _ => zpc_if (fun _ => w_fX12_look_169 hσ1) (fun _ => zpc_if (fun _ => w_fX12_look_169 hσ1) (fun _ => zpc_if (fun _ => w_fX12_look_169 hσ1) (fun _ => zpc_if (fun _ => zpc_ck (zpc_some hσ1)) (fun _ => zpc_if (fun _ => zpc_ck (zpc_some hσ1)) (fun _ => zpc_if (fun _ => zpc_ck (zpc_some hσ1)) (fun _ => zpc_if (fun _ => zpc_if (fun _ => w_fX12_look_222 hσ1) (fun _ => w_fX12_look_222 hσ1)) (fun _ => zpc_if (fun _ => zpc_ck (zpc_some hσ1)) (fun _ => zpc_if (fun _ => zpc_ck (zpc_some hσ1)) (fun _ => zpc_some hσ1))))))))))))))))))) (fun _ => zpc_some hσ1))
theorem w_fX12_look {σ0 : zSt} {σ : zSt} {x1 : Int32} (h : zKeM σ0 σ) : zpc (fX12_look σ x1) (fun r => zKeM σ0 (r.1)) := by
  unfold fX12_look
  exact zpc_bi (w_fX12_within h) (fun σ3 v4 hσ3 => zpc_if (fun _ => w_fX12_look_18 hσ3) (fun _ => w_fX12_look_18 hσ3))
theorem w_fX12_mix_17 {σ0 : zSt} {σ : zSt} {s0 : Int32} (h : zKeM σ0 σ) : zpc (fX12_mix_17 σ s0) (fun r => zKeM σ0 (r.1)) := by
  unfold fX12_mix_17
  exact zpc_bi (w_fX12_fails h) (fun σ1 v2 hσ1 => zpc_if (fun _ => zpc_ck (zpc_ck (zpc_bv (fun v3 _ => zpc_ck (zpc_ck (zpc_ck (zpc_bs (zKeM.wi hσ1 (by decide)) (fun σ4 hσ4 => zpc_ck (zpc_ck (zpc_bs (zKeM.wi hσ4 (by decide)) (fun σ5 hσ5 => zpc_some hσ5))))))))))) (fun _ => zpc_some hσ1))
theorem w_fX12_mix {σ0 : zSt} {σ : zSt} (h : zKeM σ0 σ) : zpc (fX12_mix σ) (fun r => zKeM σ0 (r.1)) := by
  unfold fX12_mix
  exact zpc_ck (zpc_if (fun _ => w_fX12_mix_17 h) (fun _ => w_fX12_mix_17 h))
theorem w_fX12_wave_41 {σ0 : zSt} {σ : zSt} {x1 : Int32} {s0 : Int32} (h : zKeM σ0 σ) : zpc (fX12_wave_41 σ x1 s0) (fun r => zKeM σ0 (r.1)) := by
  unfold fX12_wave_41
  exact zpc_bi (w_fX12_fails h) (fun σ1 v2 hσ1 => zpc_if (fun _ => zpc_if (fun _ => zpc_if (fun _ => zpc_ck (zpc_some hσ1)) (fun _ => zpc_if (fun _ => zpc_ck (zpc_some hσ1)) (fun _ => zpc_if (fun _ => zpc_ck (zpc_ck (zpc_some hσ1))) (fun _ => zpc_if (fun _ => zpc_ck (zpc_some hσ1)) (fun _ => zpc_ck (zpc_ck (zpc_ck (zpc_some hσ1)))))))) (fun _ => zpc_bi (w_fX12_wreg hσ1) (fun σ3 v4 hσ3 => zpc_some hσ3))) (fun _ => zpc_some hσ1))
theorem w_fX12_wave_40 {σ0 : zSt} {σ : zSt} {x1 : Int32} (h : zKeM σ0 σ) : zpc (fX12_wave_40 σ x1) (fun r => zKeM σ0 (r.1)) := by
  unfold fX12_wave_40
  exact w_fX12_wave_41 h
theorem w_fX12_wave_36 {σ0 : zSt} {σ : zSt} {x1 : Int32} (h : zKeM σ0 σ) : zpc (fX12_wave_36 σ x1) (fun r => zKeM σ0 (r.1)) := by
  unfold fX12_wave_36
  exact w_fX12_wave_41 h
theorem w_fX12_wave {σ0 : zSt} {σ : zSt} {x1 : Int32} (h : zKeM σ0 σ) : zpc (fX12_wave σ x1) (fun r => zKeM σ0 (r.1)) := by
  unfold fX12_wave
  exact zpc_bi (w_fX12_within h) (fun σ5 v6 hσ5 => zpc_if (fun _ => zpc_bi (w_fX12_within hσ5) (fun σ7 v8 hσ7 => zpc_if (fun _ => w_fX12_wave_36 hσ7) (fun _ => zpc_ck (zpc_if (fun _ => w_fX12_wave_40 hσ7) (fun _ => w_fX12_wave_36 hσ7))))) (fun _ => w_fX12_wave_40 hσ5))
theorem w_fX12_plan_110 {σ0 : zSt} {σ : zSt} (h : zKeM σ0 σ) : zpc (fX12_plan_110 σ) (fun r => zKeM σ0 (r.1)) := by
  unfold fX12_plan_110
  exact zpc_some h
theorem w_fX12_plan_103 {σ0 : zSt} {σ : zSt} {x1 : Int32} {x2 : Int32} {x3 : Int32} {s0 : Int32} (h : zKeM σ0 σ) : zpc (fX12_plan_103 σ x1 x2 x3 s0) (fun r => zKeM σ0 (r.1)) := by
  unfold fX12_plan_103
  exact zpc_bi (w_fX12_fails h) (fun σ1 v2 hσ1 => zpc_if (fun _ => zpc_ck (zpc_bv (fun v3 _ => zpc_ck (zpc_bs (zKeM.wi hσ1 (by decide)) (fun σ4 hσ4 => zpc_ck (zpc_bs (zKeM.wi hσ4 (by decide)) (fun σ5 hσ5 => zpc_ck (zpc_bs (zKeM.wi hσ5 (by decide)) (fun σ6 hσ6 => zpc_ck (zpc_ck (zpc_bs (zKeM.wi hσ6 (by decide)) (fun σ7 hσ7 => zpc_ck (zpc_some hσ7))))))))))))) (fun _ => w_fX12_plan_110 hσ1))
theorem w_fX12_plan_76 {σ0 : zSt} {σ : zSt} {x1 : Int32} {x2 : Int32} {x3 : Int32} {s0 : Int32} (h : zKeM σ0 σ) : zpc (fX12_plan_76 σ x1 x2 x3 s0) (fun r => zKeM σ0 (r.1)) := by
  unfold fX12_plan_76
  exact zpc_bi (w_fX12_fails h) (fun σ8 v9 hσ8 => zpc_if (fun _ => zpc_ck (zpc_if (fun _ => w_fX12_plan_103 hσ8) (fun _ => w_fX12_plan_103 hσ8))) (fun _ => w_fX12_plan_110 hσ8))
theorem w_fX12_plan_71 {σ0 : zSt} {σ : zSt} {x1 : Int32} {x2 : Int32} {x3 : Int32} (h : zKeM σ0 σ) : zpc (fX12_plan_71 σ x1 x2 x3) (fun r => zKeM σ0 (r.1)) := by
  unfold fX12_plan_71
  exact w_fX12_plan_76 h
theorem w_fX12_plan_36 {σ0 : zSt} {σ : zSt} {x1 : Int32} {x2 : Int32} {x3 : Int32} {s0 : Int32} (h : zKeM σ0 σ) : zpc (fX12_plan_36 σ x1 x2 x3 s0) (fun r => zKeM σ0 (r.1)) := by
  unfold fX12_plan_36
  exact zpc_if (fun _ => w_fX12_plan_71 h) (fun _ => zpc_if (fun _ => w_fX12_plan_71 h) (fun _ => zpc_bi (w_fX12_within h) (fun σ10 v11 hσ10 => zpc_if (fun _ => w_fX12_plan_71 hσ10) (fun _ => zpc_bi (w_fX12_within hσ10) (fun σ12 v13 hσ12 => zpc_if (fun _ => w_fX12_plan_71 hσ12) (fun _ => w_fX12_plan_76 hσ12))))))
theorem w_fX12_plan {σ0 : zSt} {σ : zSt} {x1 : Int32} {x2 : Int32} {x3 : Int32} (h : zKeM σ0 σ) : zpc (fX12_plan σ x1 x2 x3) (fun r => zKeM σ0 (r.1)) := by
  unfold fX12_plan
  exact zpc_ck (zpc_if (fun _ => w_fX12_plan_36 h) (fun _ => zpc_ck (zpc_ck (w_fX12_plan_36 h))))
theorem w_fX12_say_2_body {σ0 : zSt} {k2 : zSt → Nat → Int32 → Option (zSt)} (hk2 : ∀ (y0 : zSt) (y1 : Nat) (y2 : Int32), zKeM σ0 y0 → zpc (k2 y0 y1 y2) (fun r => zKeM σ0 (r))) {σ : zSt} {n1 : Nat} {x2 : Int32} (h : zKeM σ0 σ) : zpc (fX12_say_2_body k2 σ n1 x2) (fun r => zKeM σ0 (r)) := by
  unfold fX12_say_2_body
  exact zpc_ck (zpc_if (fun _ => zpc_some h) (fun _ => zpc_ck (zpc_ck (zpc_ck (zpc_bs (zKeM.wi h (by decide)) (fun σ1 hσ1 => zpc_bs (zKeM.w0 hσ1 (by decide)) (fun σ2 hσ2 => zpc_bv (fun v3 _ => hk2 _ _ _ hσ2))))))))
theorem w_fX12_say_2 {σ0 : zSt} : ∀ (n : Nat) (y0 : zSt) (y1 : Nat) (y2 : Int32), zKeM σ0 y0 → zpc (fX12_say_2 n y0 y1 y2) (fun r => zKeM σ0 (r)) := by
  intro n
  induction n with
  | zero => intro y0 y1 y2 h; exact zpc_none
  | succ n ih => intro y0 y1 y2 h; exact w_fX12_say_2_body ih h
theorem w_fX12_say {σ0 : zSt} {σ : zSt} {n1 : Nat} (h : zKeM σ0 σ) : zpc (fX12_say σ n1) (fun r => zKeM σ0 (r)) := by
  unfold fX12_say
  exact w_fX12_say_2 _ _ _ _ h
theorem w_fX12_hex_49 {σ0 : zSt} {k4 : zSt → Int32 → Int32 → Option (zSt)} (hk4 : ∀ (y0 : zSt) (y1 : Int32) (y2 : Int32), zKeM σ0 y0 → zpc (k4 y0 y1 y2) (fun r => zKeM σ0 (r))) {σ : zSt} {x1 : Int32} {x3 : Int32} {s0 : Int32} {s1 : Int32} (h : zKeM σ0 σ) : zpc (fX12_hex_49 k4 σ x1 x3 s0 s1) (fun r => zKeM σ0 (r)) := by
  unfold fX12_hex_49
  exact zpc_ck (zpc_bs (zKeM.wi h (by decide)) (fun σ1 hσ1 => zpc_bs (zKeM.w0 hσ1 (by decide)) (fun σ2 hσ2 => zpc_bv (fun v3 _ => hk4 _ _ _ hσ2))))
theorem w_fX12_hex_4_body {σ0 : zSt} {k4 : zSt → Int32 → Int32 → Option (zSt)} (hk4 : ∀ (y0 : zSt) (y1 : Int32) (y2 : Int32), zKeM σ0 y0 → zpc (k4 y0 y1 y2) (fun r => zKeM σ0 (r))) {σ : zSt} {x1 : Int32} {x3 : Int32} (h : zKeM σ0 σ) : zpc (fX12_hex_4_body k4 σ x1 x3) (fun r => zKeM σ0 (r)) := by
  unfold fX12_hex_4_body
  exact zpc_if (fun _ => zpc_some h) (fun _ => zpc_bv (fun v4 _ => zpc_if (fun _ => w_fX12_hex_49 hk4 h) (fun _ => w_fX12_hex_49 hk4 h)))
theorem w_fX12_hex_4 {σ0 : zSt} : ∀ (n : Nat) (y0 : zSt) (y1 : Int32) (y2 : Int32), zKeM σ0 y0 → zpc (fX12_hex_4 n y0 y1 y2) (fun r => zKeM σ0 (r)) := by
  intro n
  induction n with
  | zero => intro y0 y1 y2 h; exact zpc_none
  | succ n ih => intro y0 y1 y2 h; exact w_fX12_hex_4_body ih h
theorem w_fX12_hex {σ0 : zSt} {σ : zSt} {x1 : Int32} {x2 : Int32} (h : zKeM σ0 σ) : zpc (fX12_hex σ x1 x2) (fun r => zKeM σ0 (r)) := by
  unfold fX12_hex
  exact zpc_bv (fun v5 _ => w_fX12_hex_4 _ _ _ _ h)
theorem w_fX12_taken {σ0 : zSt} {σ : zSt} (h : zKeM σ0 σ) : zpc (fX12_taken σ) (fun r => zKeM σ0 (r.1)) := by
  unfold fX12_taken
  exact zpc_bi (w_fX12_read h) (fun σ1 v2 hσ1 => zpc_bs (zKeM.w0 hσ1 (by decide)) (fun σ3 hσ3 => zpc_some hσ3))
theorem w_fX12_takenWord {σ0 : zSt} {σ : zSt} (h : zKeM σ0 σ) : zpc (fX12_takenWord σ) (fun r => zKeM σ0 (r.1)) := by
  unfold fX12_takenWord
  exact zpc_bi (w_fX12_taken h) (fun σ1 v2 hσ1 => zpc_bi (w_fX12_taken hσ1) (fun σ3 v4 hσ3 => zpc_some hσ3))
theorem w_fX12_sayHl_31 {σ0 : zSt} {σ : zSt} {s0 : Nat} (h : zKeM σ0 σ) : zpc (fX12_sayHl_31 σ s0) (fun r => zKeM σ0 (r)) := by
  unfold fX12_sayHl_31
  exact zpc_bu (w_fX12_say h) (fun σ1 hσ1 => zpc_some hσ1)
theorem w_fX12_sayHl {σ0 : zSt} {σ : zSt} (h : zKeM σ0 σ) : zpc (fX12_sayHl σ) (fun r => zKeM σ0 (r)) := by
  unfold fX12_sayHl
  exact zpc_if (fun _ => w_fX12_sayHl_31 h) (fun _ => zpc_if (fun _ => w_fX12_sayHl_31 h) (fun _ => w_fX12_sayHl_31 h))
theorem w_fX12_sayPlace_76 {σ0 : zSt} {σ : zSt} {s0 : Int32} (h : zKeM σ0 σ) : zpc (fX12_sayPlace_76 σ s0) (fun r => zKeM σ0 (r)) := by
  unfold fX12_sayPlace_76
  exact zpc_bu (w_fX12_hex h) (fun σ1 hσ1 => zpc_bu (w_fX12_say hσ1) (fun σ2 hσ2 => zpc_some hσ2))
theorem w_fX12_sayPlace_53 {σ0 : zSt} {σ : zSt} {s0 : Nat} (h : zKeM σ0 σ) : zpc (fX12_sayPlace_53 σ s0) (fun r => zKeM σ0 (r)) := by
  unfold fX12_sayPlace_53
  exact zpc_bu (w_fX12_say h) (fun σ3 hσ3 => zpc_if (fun _ => w_fX12_sayPlace_76 hσ3) (fun _ => w_fX12_sayPlace_76 hσ3))
theorem w_fX12_sayPlace_33 {σ0 : zSt} {σ : zSt} {s0 : Nat} (h : zKeM σ0 σ) : zpc (fX12_sayPlace_33 σ s0) (fun r => zKeM σ0 (r)) := by
  unfold fX12_sayPlace_33
  exact zpc_bu (w_fX12_say h) (fun σ4 hσ4 => zpc_if (fun _ => w_fX12_sayPlace_53 hσ4) (fun _ => w_fX12_sayPlace_53 hσ4))
theorem w_fX12_sayPlace {σ0 : zSt} {σ : zSt} (h : zKeM σ0 σ) : zpc (fX12_sayPlace σ) (fun r => zKeM σ0 (r)) := by
  unfold fX12_sayPlace
  exact zpc_if (fun _ => zpc_bu (w_fX12_say h) (fun σ5 hσ5 => zpc_some hσ5)) (fun _ => zpc_if (fun _ => w_fX12_sayPlace_33 h) (fun _ => w_fX12_sayPlace_33 h))
theorem w_fX12_sayR_108 {σ0 : zSt} {σ : zSt} {s0 : Nat} (h : zKeM σ0 σ) : zpc (fX12_sayR_108 σ s0) (fun r => zKeM σ0 (r)) := by
  unfold fX12_sayR_108
  exact zpc_bu (w_fX12_say h) (fun σ1 hσ1 => zpc_some hσ1)
theorem w_fX12_sayR_39 {σ0 : zSt} {σ : zSt} {x1 : Int32} (h : zKeM σ0 σ) : zpc (fX12_sayR_39 σ x1) (fun r => zKeM σ0 (r)) := by
  unfold fX12_sayR_39
  exact zpc_if (fun _ => w_fX12_sayR_108 h) (fun _ => zpc_if (fun _ => w_fX12_sayR_108 h) (fun _ => zpc_if (fun _ => w_fX12_sayR_108 h) (fun _ => zpc_if (fun _ => w_fX12_sayR_108 h) (fun _ => zpc_if (fun _ => w_fX12_sayR_108 h) (fun _ => zpc_if (fun _ => w_fX12_sayR_108 h) (fun _ => w_fX12_sayR_108 h))))))
theorem w_fX12_sayR_35 {σ0 : zSt} {σ : zSt} {x1 : Int32} (h : zKeM σ0 σ) : zpc (fX12_sayR_35 σ x1) (fun r => zKeM σ0 (r)) := by
  unfold fX12_sayR_35
  exact zpc_bu (w_fX12_sayHl h) (fun σ2 hσ2 => w_fX12_sayR_39 hσ2)
theorem w_fX12_sayR {σ0 : zSt} {σ : zSt} {x1 : Int32} (h : zKeM σ0 σ) : zpc (fX12_sayR σ x1) (fun r => zKeM σ0 (r)) := by
  unfold fX12_sayR
  exact zpc_if (fun _ => zpc_bu (w_fX12_sayPlace h) (fun σ3 hσ3 => zpc_some hσ3)) (fun _ => zpc_if (fun _ => w_fX12_sayR_39 h) (fun _ => zpc_if (fun _ => zpc_if (fun _ => w_fX12_sayR_35 h) (fun _ => zpc_if (fun _ => w_fX12_sayR_35 h) (fun _ => w_fX12_sayR_39 h))) (fun _ => w_fX12_sayR_39 h)))
theorem w_fX12_sayRp_50 {σ0 : zSt} {σ : zSt} (h : zKeM σ0 σ) : zpc (fX12_sayRp_50 σ) (fun r => zKeM σ0 (r)) := by
  unfold fX12_sayRp_50
  exact zpc_some h
theorem w_fX12_sayRp_47 {σ0 : zSt} {σ : zSt} {s0 : Nat} (h : zKeM σ0 σ) : zpc (fX12_sayRp_47 σ s0) (fun r => zKeM σ0 (r)) := by
  unfold fX12_sayRp_47
  exact zpc_bu (w_fX12_say h) (fun σ1 hσ1 => w_fX12_sayRp_50 hσ1)
theorem w_fX12_sayRp {σ0 : zSt} {σ : zSt} {x1 : Int32} {x2 : Int32} (h : zKeM σ0 σ) : zpc (fX12_sayRp σ x1 x2) (fun r => zKeM σ0 (r)) := by
  unfold fX12_sayRp
  exact zpc_if (fun _ => zpc_bu (w_fX12_sayHl h) (fun σ2 hσ2 => w_fX12_sayRp_50 hσ2)) (fun _ => zpc_if (fun _ => w_fX12_sayRp_47 h) (fun _ => zpc_if (fun _ => w_fX12_sayRp_47 h) (fun _ => zpc_if (fun _ => w_fX12_sayRp_47 h) (fun _ => w_fX12_sayRp_47 h))))
theorem w_fX12_sayCc_81 {σ0 : zSt} {σ : zSt} {s0 : Nat} (h : zKeM σ0 σ) : zpc (fX12_sayCc_81 σ s0) (fun r => zKeM σ0 (r)) := by
  unfold fX12_sayCc_81
  exact zpc_bu (w_fX12_say h) (fun σ1 hσ1 => zpc_some hσ1)
theorem w_fX12_sayCc {σ0 : zSt} {σ : zSt} {x1 : Int32} (h : zKeM σ0 σ) : zpc (fX12_sayCc σ x1) (fun r => zKeM σ0 (r)) := by
  unfold fX12_sayCc
  exact zpc_if (fun _ => w_fX12_sayCc_81 h) (fun _ => zpc_if (fun _ => w_fX12_sayCc_81 h) (fun _ => zpc_if (fun _ => w_fX12_sayCc_81 h) (fun _ => zpc_if (fun _ => w_fX12_sayCc_81 h) (fun _ => zpc_if (fun _ => w_fX12_sayCc_81 h) (fun _ => zpc_if (fun _ => w_fX12_sayCc_81 h) (fun _ => zpc_if (fun _ => w_fX12_sayCc_81 h) (fun _ => w_fX12_sayCc_81 h)))))))
theorem w_fX12_sayPlaced {σ0 : zSt} {σ : zSt} {x1 : Int32} (h : zKeM σ0 σ) : zpc (fX12_sayPlaced σ x1) (fun r => zKeM σ0 (r)) := by
  unfold fX12_sayPlaced
  exact zpc_bu (w_fX12_say h) (fun σ1 hσ1 => zpc_bu (w_fX12_hex hσ1) (fun σ2 hσ2 => zpc_bu (w_fX12_say hσ2) (fun σ3 hσ3 => zpc_some hσ3)))
theorem w_fX12_sayJump {σ0 : zSt} {σ : zSt} (h : zKeM σ0 σ) : zpc (fX12_sayJump σ) (fun r => zKeM σ0 (r)) := by
  unfold fX12_sayJump
  exact zpc_bi (w_fX12_taken h) (fun σ1 v2 hσ1 => zpc_bi (w_fX12_signed hσ1) (fun σ3 v4 hσ3 => zpc_bu (w_fX12_hex hσ3) (fun σ5 hσ5 => zpc_some hσ5)))
theorem w_fX12_sayDo_81 {σ0 : zSt} {σ : zSt} {s0 : Nat} (h : zKeM σ0 σ) : zpc (fX12_sayDo_81 σ s0) (fun r => zKeM σ0 (r)) := by
  unfold fX12_sayDo_81
  exact zpc_bu (w_fX12_say h) (fun σ1 hσ1 => zpc_some hσ1)
theorem w_fX12_sayDo {σ0 : zSt} {σ : zSt} {x1 : Int32} (h : zKeM σ0 σ) : zpc (fX12_sayDo σ x1) (fun r => zKeM σ0 (r)) := by
  unfold fX12_sayDo
  exact zpc_if (fun _ => w_fX12_sayDo_81 h) (fun _ => zpc_if (fun _ => w_fX12_sayDo_81 h) (fun _ => zpc_if (fun _ => w_fX12_sayDo_81 h) (fun _ => zpc_if (fun _ => w_fX12_sayDo_81 h) (fun _ => zpc_if (fun _ => w_fX12_sayDo_81 h) (fun _ => zpc_if (fun _ => w_fX12_sayDo_81 h) (fun _ => zpc_if (fun _ => w_fX12_sayDo_81 h) (fun _ => w_fX12_sayDo_81 h)))))))
theorem w_fX12_sayTurn_146 {σ0 : zSt} {σ : zSt} {x1 : Int32} (h : zKeM σ0 σ) : zpc (fX12_sayTurn_146 σ x1) (fun r => zKeM σ0 (r)) := by
  unfold fX12_sayTurn_146
  exact zpc_bu (w_fX12_sayR h) (fun σ1 hσ1 => zpc_some hσ1)
theorem w_fX12_sayTurn_94 {σ0 : zSt} {σ : zSt} {x1 : Int32} {s0 : Nat} (h : zKeM σ0 σ) : zpc (fX12_sayTurn_94 σ x1 s0) (fun r => zKeM σ0 (r)) := by
  unfold fX12_sayTurn_94
  exact zpc_bu (w_fX12_say h) (fun σ2 hσ2 => w_fX12_sayTurn_146 hσ2)
theorem w_fX12_sayTurn_130 {σ0 : zSt} {σ : zSt} {x1 : Int32} {x2 : Int32} {s0 : Nat} (h : zKeM σ0 σ) : zpc (fX12_sayTurn_130 σ x1 x2 s0) (fun r => zKeM σ0 (r)) := by
  unfold fX12_sayTurn_130
  exact zpc_bu (w_fX12_say h) (fun σ3 hσ3 => zpc_bu (w_fX12_hex hσ3) (fun σ4 hσ4 => zpc_bu (w_fX12_say hσ4) (fun σ5 hσ5 => w_fX12_sayTurn_146 hσ5)))
theorem w_fX12_sayTurn {σ0 : zSt} {σ : zSt} {x1 : Int32} (h : zKeM σ0 σ) : zpc (fX12_sayTurn σ x1) (fun r => zKeM σ0 (r)) := by
  unfold fX12_sayTurn
  exact zpc_bv (fun v6 _ => zpc_if (fun _ => zpc_if (fun _ => zpc_if (fun _ => w_fX12_sayTurn_130 h) (fun _ => w_fX12_sayTurn_130 h)) (fun _ => w_fX12_sayTurn_130 h)) (fun _ => zpc_if (fun _ => w_fX12_sayTurn_94 h) (fun _ => zpc_if (fun _ => w_fX12_sayTurn_94 h) (fun _ => zpc_if (fun _ => w_fX12_sayTurn_94 h) (fun _ => zpc_if (fun _ => w_fX12_sayTurn_94 h) (fun _ => zpc_if (fun _ => w_fX12_sayTurn_94 h) (fun _ => zpc_if (fun _ => w_fX12_sayTurn_94 h) (fun _ => zpc_if (fun _ => w_fX12_sayTurn_94 h) (fun _ => w_fX12_sayTurn_94 h)))))))))
theorem w_fX12_sayZero_301 {σ0 : zSt} {σ : zSt} (h : zKeM σ0 σ) : zpc (fX12_sayZero_301 σ) (fun r => zKeM σ0 (r)) := by
  unfold fX12_sayZero_301
  exact zpc_some h
theorem w_fX12_sayZero_80 {σ0 : zSt} {σ : zSt} {x1 : Int32} (h : zKeM σ0 σ) : zpc (fX12_sayZero_80 σ x1) (fun r => zKeM σ0 (r)) := by
  unfold fX12_sayZero_80
  exact zpc_if (fun _ => w_fX12_sayZero_301 h) (fun _ => zpc_bu (w_fX12_sayJump h) (fun σ1 hσ1 => w_fX12_sayZero_301 hσ1))
theorem w_fX12_sayZero_58 {σ0 : zSt} {σ : zSt} {x1 : Int32} {s0 : Nat} (h : zKeM σ0 σ) : zpc (fX12_sayZero_58 σ x1 s0) (fun r => zKeM σ0 (r)) := by
  unfold fX12_sayZero_58
  exact zpc_bu (w_fX12_say h) (fun σ2 hσ2 => zpc_if (fun _ => w_fX12_sayZero_80 hσ2) (fun _ => zpc_bu (w_fX12_sayCc hσ2) (fun σ3 hσ3 => zpc_bu (w_fX12_say hσ3) (fun σ4 hσ4 => w_fX12_sayZero_80 hσ4))))
theorem w_fX12_sayZero_133 {σ0 : zSt} {σ : zSt} {x3 : Int32} {x4 : Int32} (h : zKeM σ0 σ) : zpc (fX12_sayZero_133 σ x3 x4) (fun r => zKeM σ0 (r)) := by
  unfold fX12_sayZero_133
  exact zpc_bu (w_fX12_say h) (fun σ5 hσ5 => zpc_if (fun _ => zpc_bi (w_fX12_takenWord hσ5) (fun σ6 v7 hσ6 => zpc_bu (w_fX12_hex hσ6) (fun σ8 hσ8 => w_fX12_sayZero_301 hσ8))) (fun _ => zpc_bu (w_fX12_sayRp hσ5) (fun σ9 hσ9 => w_fX12_sayZero_301 hσ9)))
theorem w_fX12_sayZero_112 {σ0 : zSt} {σ : zSt} {x3 : Int32} {x4 : Int32} {s0 : Nat} (h : zKeM σ0 σ) : zpc (fX12_sayZero_112 σ x3 x4 s0) (fun r => zKeM σ0 (r)) := by
  unfold fX12_sayZero_112
  exact zpc_bu (w_fX12_say h) (fun σ10 hσ10 => zpc_if (fun _ => zpc_bu (w_fX12_sayRp hσ10) (fun σ11 hσ11 => w_fX12_sayZero_133 hσ11)) (fun _ => zpc_bu (w_fX12_sayHl hσ10) (fun σ12 hσ12 => w_fX12_sayZero_133 hσ12)))
theorem w_fX12_sayZero_186 {σ0 : zSt} {σ : zSt} {x3 : Int32} {s0 : Nat} (h : zKeM σ0 σ) : zpc (fX12_sayZero_186 σ x3 s0) (fun r => zKeM σ0 (r)) := by
  unfold fX12_sayZero_186
  exact zpc_bu (w_fX12_say h) (fun σ13 hσ13 => zpc_bu (w_fX12_sayRp hσ13) (fun σ14 hσ14 => w_fX12_sayZero_301 hσ14))
theorem w_fX12_sayZero_269 {σ0 : zSt} {σ : zSt} {x3 : Int32} {x4 : Int32} (h : zKeM σ0 σ) : zpc (fX12_sayZero_269 σ x3 x4) (fun r => zKeM σ0 (r)) := by
  unfold fX12_sayZero_269
  exact zpc_if (fun _ => zpc_bu (w_fX12_say h) (fun σ15 hσ15 => zpc_if (fun _ => zpc_bu (w_fX12_sayHl hσ15) (fun σ17 hσ17 => w_fX12_sayZero_301 hσ17)) (fun _ => zpc_bu (w_fX12_say hσ15) (fun σ16 hσ16 => w_fX12_sayZero_301 hσ16)))) (fun _ => zpc_some h)
theorem w_fX12_sayZero_255 {σ0 : zSt} {σ : zSt} {x3 : Int32} {x4 : Int32} {s0 : Nat} (h : zKeM σ0 σ) : zpc (fX12_sayZero_255 σ x3 x4 s0) (fun r => zKeM σ0 (r)) := by
  unfold fX12_sayZero_255
  exact zpc_bu (w_fX12_say h) (fun σ18 hσ18 => w_fX12_sayZero_269 hσ18)
theorem w_fX12_sayZero_236 {σ0 : zSt} {σ : zSt} {x3 : Int32} {x4 : Int32} (h : zKeM σ0 σ) : zpc (fX12_sayZero_236 σ x3 x4) (fun r => zKeM σ0 (r)) := by
  unfold fX12_sayZero_236
  exact zpc_if (fun _ => zpc_bi (w_fX12_takenWord h) (fun σ19 v20 hσ19 => zpc_bu (w_fX12_sayPlaced hσ19) (fun σ21 hσ21 => w_fX12_sayZero_269 hσ21))) (fun _ => zpc_if (fun _ => w_fX12_sayZero_255 h) (fun _ => w_fX12_sayZero_255 h))
theorem w_fX12_sayZero_229 {σ0 : zSt} {σ : zSt} {x3 : Int32} {x4 : Int32} (h : zKeM σ0 σ) : zpc (fX12_sayZero_229 σ x3 x4) (fun r => zKeM σ0 (r)) := by
  unfold fX12_sayZero_229
  exact zpc_bu (w_fX12_say h) (fun σ22 hσ22 => w_fX12_sayZero_236 hσ22)
theorem w_fX12_sayZero_16 {σ0 : zSt} {σ : zSt} {x1 : Int32} {x2 : Int32} {x3 : Int32} {s0 : Int32} (h : zKeM σ0 σ) : zpc (fX12_sayZero_16 σ x1 x2 x3 s0) (fun r => zKeM σ0 (r)) := by
  unfold fX12_sayZero_16
  exact zpc_if (fun _ => zpc_if (fun _ => w_fX12_sayZero_58 h) (fun _ => zpc_if (fun _ => w_fX12_sayZero_58 h) (fun _ => zpc_if (fun _ => w_fX12_sayZero_58 h) (fun _ => w_fX12_sayZero_58 h)))) (fun _ => zpc_if (fun _ => zpc_if (fun _ => w_fX12_sayZero_112 h) (fun _ => w_fX12_sayZero_112 h)) (fun _ => zpc_if (fun _ => zpc_if (fun _ => w_fX12_sayZero_186 h) (fun _ => w_fX12_sayZero_186 h)) (fun _ => zpc_bu (w_fX12_say h) (fun σ23 hσ23 => zpc_if (fun _ => w_fX12_sayZero_236 hσ23) (fun _ => zpc_if (fun _ => zpc_bu (w_fX12_sayHl hσ23) (fun σ25 hσ25 => w_fX12_sayZero_229 hσ25)) (fun _ => zpc_bu (w_fX12_say hσ23) (fun σ24 hσ24 => w_fX12_sayZero_229 hσ24)))))))
theorem w_fX12_sayZero {σ0 : zSt} {σ : zSt} {x1 : Int32} {x2 : Int32} (h : zKeM σ0 σ) : zpc (fX12_sayZero σ x1 x2) (fun r => zKeM σ0 (r)) := by
  unfold fX12_sayZero
  exact zpc_bv (fun v26 _ => zpc_ck (zpc_if (fun _ => w_fX12_sayZero_16 h) (fun _ => w_fX12_sayZero_16 h)))
theorem w_fX12_saySingle_87 {σ0 : zSt} {σ : zSt} {s0 : Nat} (h : zKeM σ0 σ) : zpc (fX12_saySingle_87 σ s0) (fun r => zKeM σ0 (r)) := by
  unfold fX12_saySingle_87
  exact zpc_bu (w_fX12_say h) (fun σ1 hσ1 => zpc_some hσ1)
theorem w_fX12_saySingle_117 {σ0 : zSt} {σ : zSt} {x1 : Int32} {x2 : Int32} {s0 : Nat} (h : zKeM σ0 σ) : zpc (fX12_saySingle_117 σ x1 x2 s0) (fun r => zKeM σ0 (r)) := by
  unfold fX12_saySingle_117
  exact zpc_bu (w_fX12_say h) (fun σ2 hσ2 => zpc_bu (w_fX12_sayR hσ2) (fun σ3 hσ3 => zpc_if (fun _ => zpc_bu (w_fX12_say hσ3) (fun σ4 hσ4 => zpc_bi (w_fX12_taken hσ4) (fun σ5 v6 hσ5 => zpc_bu (w_fX12_hex hσ5) (fun σ7 hσ7 => zpc_some hσ7)))) (fun _ => zpc_some hσ3)))
theorem w_fX12_saySingle {σ0 : zSt} {σ : zSt} {x1 : Int32} {x2 : Int32} (h : zKeM σ0 σ) : zpc (fX12_saySingle σ x1 x2) (fun r => zKeM σ0 (r)) := by
  unfold fX12_saySingle
  exact zpc_if (fun _ => zpc_if (fun _ => w_fX12_saySingle_87 h) (fun _ => zpc_if (fun _ => w_fX12_saySingle_87 h) (fun _ => zpc_if (fun _ => w_fX12_saySingle_87 h) (fun _ => zpc_if (fun _ => w_fX12_saySingle_87 h) (fun _ => zpc_if (fun _ => w_fX12_saySingle_87 h) (fun _ => zpc_if (fun _ => w_fX12_saySingle_87 h) (fun _ => zpc_if (fun _ => w_fX12_saySingle_87 h) (fun _ => w_fX12_saySingle_87 h)))))))) (fun _ => zpc_if (fun _ => w_fX12_saySingle_117 h) (fun _ => zpc_if (fun _ => w_fX12_saySingle_117 h) (fun _ => w_fX12_saySingle_117 h)))
theorem w_fX12_sayThree_266 {σ0 : zSt} {σ : zSt} (h : zKeM σ0 σ) : zpc (fX12_sayThree_266 σ) (fun r => zKeM σ0 (r)) := by
  unfold fX12_sayThree_266
  exact zpc_some h
theorem w_fX12_sayThree_103 {σ0 : zSt} {σ : zSt} {x3 : Int32} (h : zKeM σ0 σ) : zpc (fX12_sayThree_103 σ x3) (fun r => zKeM σ0 (r)) := by
  unfold fX12_sayThree_103
  exact zpc_if (fun _ => zpc_bu (w_fX12_say h) (fun σ1 hσ1 => w_fX12_sayThree_266 hσ1)) (fun _ => w_fX12_sayThree_266 h)
theorem w_fX12_sayThree_91 {σ0 : zSt} {σ : zSt} {x3 : Int32} {s0 : Nat} (h : zKeM σ0 σ) : zpc (fX12_sayThree_91 σ x3 s0) (fun r => zKeM σ0 (r)) := by
  unfold fX12_sayThree_91
  exact zpc_bu (w_fX12_say h) (fun σ2 hσ2 => zpc_if (fun _ => w_fX12_sayThree_103 hσ2) (fun _ => zpc_bu (w_fX12_sayHl hσ2) (fun σ3 hσ3 => w_fX12_sayThree_103 hσ3)))
theorem w_fX12_sayThree_151 {σ0 : zSt} {σ : zSt} (h : zKeM σ0 σ) : zpc (fX12_sayThree_151 σ) (fun r => zKeM σ0 (r)) := by
  unfold fX12_sayThree_151
  exact zpc_bi (w_fX12_takenWord h) (fun σ4 v5 hσ4 => zpc_bu (w_fX12_hex hσ4) (fun σ6 hσ6 => w_fX12_sayThree_266 hσ6))
theorem w_fX12_sayThree_127 {σ0 : zSt} {σ : zSt} {x1 : Int32} {x2 : Int32} (h : zKeM σ0 σ) : zpc (fX12_sayThree_127 σ x1 x2) (fun r => zKeM σ0 (r)) := by
  unfold fX12_sayThree_127
  exact zpc_bu (w_fX12_say h) (fun σ7 hσ7 => zpc_if (fun _ => zpc_bu (w_fX12_sayCc hσ7) (fun σ8 hσ8 => zpc_bu (w_fX12_say hσ8) (fun σ9 hσ9 => w_fX12_sayThree_151 hσ9))) (fun _ => w_fX12_sayThree_151 hσ7))
theorem w_fX12_sayThree_210 {σ0 : zSt} {σ : zSt} {s0 : Nat} (h : zKeM σ0 σ) : zpc (fX12_sayThree_210 σ s0) (fun r => zKeM σ0 (r)) := by
  unfold fX12_sayThree_210
  exact zpc_bu (w_fX12_say h) (fun σ10 hσ10 => w_fX12_sayThree_266 hσ10)
theorem w_fX12_sayThree_183 {σ0 : zSt} {σ : zSt} {x1 : Int32} {s0 : Nat} (h : zKeM σ0 σ) : zpc (fX12_sayThree_183 σ x1 s0) (fun r => zKeM σ0 (r)) := by
  unfold fX12_sayThree_183
  exact zpc_bu (w_fX12_say h) (fun σ11 hσ11 => zpc_bi (w_fX12_taken hσ11) (fun σ12 v13 hσ12 => zpc_bu (w_fX12_hex hσ12) (fun σ14 hσ14 => zpc_if (fun _ => w_fX12_sayThree_210 hσ14) (fun _ => w_fX12_sayThree_210 hσ14))))
theorem w_fX12_sayThree_254 {σ0 : zSt} {σ : zSt} {x1 : Int32} {s0 : Nat} (h : zKeM σ0 σ) : zpc (fX12_sayThree_254 σ x1 s0) (fun r => zKeM σ0 (r)) := by
  unfold fX12_sayThree_254
  exact zpc_bu (w_fX12_say h) (fun σ15 hσ15 => zpc_if (fun _ => zpc_bu (w_fX12_sayHl hσ15) (fun σ16 hσ16 => w_fX12_sayThree_266 hσ16)) (fun _ => w_fX12_sayThree_266 hσ15))
theorem w_fX12_sayThree_50 {σ0 : zSt} {σ : zSt} {x1 : Int32} {x2 : Int32} {x3 : Int32} (h : zKeM σ0 σ) : zpc (fX12_sayThree_50 σ x1 x2 x3) (fun r => zKeM σ0 (r)) := by
  unfold fX12_sayThree_50
  exact zpc_if (fun _ => zpc_if (fun _ => w_fX12_sayThree_91 h) (fun _ => zpc_if (fun _ => w_fX12_sayThree_91 h) (fun _ => zpc_if (fun _ => w_fX12_sayThree_91 h) (fun _ => w_fX12_sayThree_91 h)))) (fun _ => zpc_if (fun _ => w_fX12_sayThree_127 h) (fun _ => zpc_if (fun _ => w_fX12_sayThree_127 h) (fun _ => zpc_if (fun _ => zpc_if (fun _ => w_fX12_sayThree_254 h) (fun _ => zpc_if (fun _ => w_fX12_sayThree_254 h) (fun _ => zpc_if (fun _ => w_fX12_sayThree_254 h) (fun _ => w_fX12_sayThree_254 h)))) (fun _ => zpc_if (fun _ => w_fX12_sayThree_183 h) (fun _ => w_fX12_sayThree_183 h)))))
theorem w_fX12_sayThree {σ0 : zSt} {σ : zSt} {x1 : Int32} {x2 : Int32} (h : zKeM σ0 σ) : zpc (fX12_sayThree σ x1 x2) (fun r => zKeM σ0 (r)) := by
  unfold fX12_sayThree
  exact zpc_bv (fun v17 _ => zpc_if (fun _ => zpc_bu (w_fX12_say h) (fun σ20 hσ20 => zpc_bu (w_fX12_sayCc hσ20) (fun σ21 hσ21 => w_fX12_sayThree_266 hσ21))) (fun _ => zpc_if (fun _ => zpc_ck (zpc_if (fun _ => zpc_bu (w_fX12_say h) (fun σ18 hσ18 => zpc_bu (w_fX12_sayRp hσ18) (fun σ19 hσ19 => w_fX12_sayThree_266 hσ19))) (fun _ => w_fX12_sayThree_50 h))) (fun _ => w_fX12_sayThree_50 h)))
theorem w_fX12_sayLast_115 {σ0 : zSt} {σ : zSt} (h : zKeM σ0 σ) : zpc (fX12_sayLast_115 σ) (fun r => zKeM σ0 (r)) := by
  unfold fX12_sayLast_115
  exact zpc_some h
theorem w_fX12_sayLast_43 {σ0 : zSt} {σ : zSt} (h : zKeM σ0 σ) : zpc (fX12_sayLast_43 σ) (fun r => zKeM σ0 (r)) := by
  unfold fX12_sayLast_43
  exact zpc_bi (w_fX12_takenWord h) (fun σ1 v2 hσ1 => zpc_bu (w_fX12_hex hσ1) (fun σ3 hσ3 => w_fX12_sayLast_115 hσ3))
theorem w_fX12_sayLast_19 {σ0 : zSt} {σ : zSt} {x1 : Int32} {x2 : Int32} (h : zKeM σ0 σ) : zpc (fX12_sayLast_19 σ x1 x2) (fun r => zKeM σ0 (r)) := by
  unfold fX12_sayLast_19
  exact zpc_bu (w_fX12_say h) (fun σ4 hσ4 => zpc_if (fun _ => zpc_bu (w_fX12_sayCc hσ4) (fun σ5 hσ5 => zpc_bu (w_fX12_say hσ5) (fun σ6 hσ6 => w_fX12_sayLast_43 hσ6))) (fun _ => w_fX12_sayLast_43 hσ4))
theorem w_fX12_sayLast_55 {σ0 : zSt} {σ : zSt} {x1 : Int32} {x2 : Int32} {x3 : Int32} (h : zKeM σ0 σ) : zpc (fX12_sayLast_55 σ x1 x2 x3) (fun r => zKeM σ0 (r)) := by
  unfold fX12_sayLast_55
  exact zpc_if (fun _ => zpc_bu (w_fX12_say h) (fun σ13 hσ13 => zpc_bu (w_fX12_sayRp hσ13) (fun σ14 hσ14 => w_fX12_sayLast_115 hσ14))) (fun _ => zpc_if (fun _ => zpc_bu (w_fX12_sayDo h) (fun σ9 hσ9 => zpc_bi (w_fX12_taken hσ9) (fun σ10 v11 hσ10 => zpc_bu (w_fX12_hex hσ10) (fun σ12 hσ12 => w_fX12_sayLast_115 hσ12)))) (fun _ => zpc_bu (w_fX12_say h) (fun σ7 hσ7 => zpc_bu (w_fX12_hex hσ7) (fun σ8 hσ8 => w_fX12_sayLast_115 hσ8))))
theorem w_fX12_sayLast {σ0 : zSt} {σ : zSt} {x1 : Int32} {x2 : Int32} (h : zKeM σ0 σ) : zpc (fX12_sayLast σ x1 x2) (fun r => zKeM σ0 (r)) := by
  unfold fX12_sayLast
  exact zpc_bv (fun v15 _ => zpc_if (fun _ => w_fX12_sayLast_19 h) (fun _ => zpc_if (fun _ => zpc_if (fun _ => w_fX12_sayLast_19 h) (fun _ => w_fX12_sayLast_55 h)) (fun _ => w_fX12_sayLast_55 h)))
theorem w_fX12_sayPlain_137 {σ0 : zSt} {σ : zSt} (h : zKeM σ0 σ) : zpc (fX12_sayPlain_137 σ) (fun r => zKeM σ0 (r)) := by
  unfold fX12_sayPlain_137
  exact zpc_some h
theorem w_fX12_sayPlain_32 {σ0 : zSt} {σ : zSt} {x1 : Int32} {x2 : Int32} {x3 : Int32} (h : zKeM σ0 σ) : zpc (fX12_sayPlain_32 σ x1 x2 x3) (fun r => zKeM σ0 (r)) := by
  unfold fX12_sayPlain_32
  exact zpc_if (fun _ => zpc_if (fun _ => zpc_bu (w_fX12_say h) (fun σ9 hσ9 => w_fX12_sayPlain_137 hσ9)) (fun _ => zpc_if (fun _ => zpc_if (fun _ => zpc_if (fun _ => zpc_bu (w_fX12_sayLast h) (fun σ1 hσ1 => w_fX12_sayPlain_137 hσ1)) (fun _ => zpc_bu (w_fX12_sayThree h) (fun σ2 hσ2 => w_fX12_sayPlain_137 hσ2))) (fun _ => zpc_bu (w_fX12_sayDo h) (fun σ3 hσ3 => zpc_bu (w_fX12_sayR hσ3) (fun σ4 hσ4 => w_fX12_sayPlain_137 hσ4)))) (fun _ => zpc_bu (w_fX12_say h) (fun σ5 hσ5 => zpc_bu (w_fX12_sayR hσ5) (fun σ6 hσ6 => zpc_bu (w_fX12_say hσ6) (fun σ7 hσ7 => zpc_bu (w_fX12_sayR hσ7) (fun σ8 hσ8 => w_fX12_sayPlain_137 hσ8))))))) (fun _ => zpc_bu (w_fX12_saySingle h) (fun σ10 hσ10 => w_fX12_sayPlain_137 hσ10))
theorem w_fX12_sayPlain {σ0 : zSt} {σ : zSt} {x1 : Int32} (h : zKeM σ0 σ) : zpc (fX12_sayPlain σ x1) (fun r => zKeM σ0 (r)) := by
  unfold fX12_sayPlain
  exact zpc_bv (fun v11 _ => zpc_bv (fun v12 _ => zpc_if (fun _ => w_fX12_sayPlain_32 h) (fun _ => zpc_if (fun _ => w_fX12_sayPlain_32 h) (fun _ => zpc_bu (w_fX12_sayZero h) (fun σ13 hσ13 => w_fX12_sayPlain_137 hσ13)))))
theorem w_fX12_sayPrefixed_30 {σ0 : zSt} {σ : zSt} (h : zKeM σ0 σ) : zpc (fX12_sayPrefixed_30 σ) (fun r => zKeM σ0 (r)) := by
  unfold fX12_sayPrefixed_30
  exact zpc_bu (w_fX12_say h) (fun σ1 hσ1 => zpc_some hσ1)
theorem w_fX12_sayPrefixed_133 {σ0 : zSt} {σ : zSt} (h : zKeM σ0 σ) : zpc (fX12_sayPrefixed_133 σ) (fun r => zKeM σ0 (r)) := by
  unfold fX12_sayPrefixed_133
  exact zpc_some h
theorem w_fX12_sayPrefixed_240 {σ0 : zSt} {σ : zSt} {x2 : Int32} (h : zKeM σ0 σ) : zpc (fX12_sayPrefixed_240 σ x2) (fun r => zKeM σ0 (r)) := by
  unfold fX12_sayPrefixed_240
  exact zpc_bu (w_fX12_sayPlain h) (fun σ2 hσ2 => zpc_some hσ2)
theorem w_fX12_sayPrefixed_219 {σ0 : zSt} {σ : zSt} {x2 : Int32} {s0 : Int32} (h : zKeM σ0 σ) : zpc (fX12_sayPrefixed_219 σ x2 s0) (fun r => zKeM σ0 (r)) := by
  unfold fX12_sayPrefixed_219
  exact zpc_ck (zpc_bs (zKeM.w0 h (by decide)) (fun σ3 hσ3 => zpc_if (fun _ => w_fX12_sayPrefixed_240 hσ3) (fun _ => zpc_bi (w_fX12_taken hσ3) (fun σ4 v5 hσ4 => zpc_bi (w_fX12_signed hσ4) (fun σ6 v7 hσ6 => zpc_bs (zKeM.w0 hσ6 (by decide)) (fun σ8 hσ8 => w_fX12_sayPrefixed_240 hσ8))))))
theorem w_fX12_sayPrefixed_218 {σ0 : zSt} {σ : zSt} {x2 : Int32} (h : zKeM σ0 σ) : zpc (fX12_sayPrefixed_218 σ x2) (fun r => zKeM σ0 (r)) := by
  unfold fX12_sayPrefixed_218
  exact w_fX12_sayPrefixed_219 h
theorem w_fX12_sayPrefixed_214 {σ0 : zSt} {σ : zSt} {x2 : Int32} (h : zKeM σ0 σ) : zpc (fX12_sayPrefixed_214 σ x2) (fun r => zKeM σ0 (r)) := by
  unfold fX12_sayPrefixed_214
  exact w_fX12_sayPrefixed_219 h
theorem w_fX12_sayPrefixed_201 {σ0 : zSt} {σ : zSt} {x2 : Int32} {x4 : Int32} {x5 : Int32} (h : zKeM σ0 σ) : zpc (fX12_sayPrefixed_201 σ x2 x4 x5) (fun r => zKeM σ0 (r)) := by
  unfold fX12_sayPrefixed_201
  exact zpc_if (fun _ => zpc_if (fun _ => w_fX12_sayPrefixed_214 h) (fun _ => w_fX12_sayPrefixed_218 h)) (fun _ => w_fX12_sayPrefixed_218 h)
theorem w_fX12_sayPrefixed_195 {σ0 : zSt} {σ : zSt} {x2 : Int32} {x4 : Int32} {x5 : Int32} (h : zKeM σ0 σ) : zpc (fX12_sayPrefixed_195 σ x2 x4 x5) (fun r => zKeM σ0 (r)) := by
  unfold fX12_sayPrefixed_195
  exact zpc_if (fun _ => w_fX12_sayPrefixed_201 h) (fun _ => w_fX12_sayPrefixed_214 h)
theorem w_fX12_sayPrefixed_176 {σ0 : zSt} {σ : zSt} {x2 : Int32} {x3 : Int32} {x4 : Int32} {x5 : Int32} (h : zKeM σ0 σ) : zpc (fX12_sayPrefixed_176 σ x2 x3 x4 x5) (fun r => zKeM σ0 (r)) := by
  unfold fX12_sayPrefixed_176
  exact zpc_if (fun _ => zpc_if (fun _ => w_fX12_sayPrefixed_195 h) (fun _ => zpc_if (fun _ => w_fX12_sayPrefixed_195 h) (fun _ => w_fX12_sayPrefixed_201 h))) (fun _ => w_fX12_sayPrefixed_201 h)
theorem w_fX12_sayPrefixed {σ0 : zSt} {σ : zSt} {x1 : Int32} (h : zKeM σ0 σ) : zpc (fX12_sayPrefixed σ x1) (fun r => zKeM σ0 (r)) := by
  unfold fX12_sayPrefixed
  exact zpc_bi (w_fX12_read h) (fun σ9 v10 hσ9 => zpc_if (fun _ => w_fX12_sayPrefixed_30 hσ9) (fun _ => zpc_if (fun _ => w_fX12_sayPrefixed_30 hσ9) (fun _ => zpc_if (fun _ => w_fX12_sayPrefixed_30 hσ9) (fun _ => zpc_bs (zKeM.w0 hσ9 (by decide)) (fun σ11 hσ11 => zpc_bs (zKeM.w0 hσ11 (by decide)) (fun σ12 hσ12 => zpc_bv (fun v13 _ => zpc_bv (fun v14 _ => zpc_bv (fun v15 _ => zpc_if (fun _ => zpc_bi (w_fX12_taken hσ12) (fun σ16 v17 hσ16 => zpc_bi (w_fX12_signed hσ16) (fun σ18 v19 hσ18 => zpc_bs (zKeM.w0 hσ18 (by decide)) (fun σ20 hσ20 => zpc_ck (zpc_bs (zKeM.w0 hσ20 (by decide)) (fun σ21 hσ21 => zpc_bi (w_fX12_taken hσ21) (fun σ22 v23 hσ22 => zpc_bu (w_fX12_sayTurn hσ22) (fun σ24 hσ24 => zpc_if (fun _ => w_fX12_sayPrefixed_133 hσ24) (fun _ => zpc_ck (zpc_if (fun _ => w_fX12_sayPrefixed_133 hσ24) (fun _ => zpc_bu (w_fX12_say hσ24) (fun σ25 hσ25 => zpc_ck (zpc_bu (w_fX12_sayR hσ25) (fun σ26 hσ26 => zpc_some hσ26)))))))))))))) (fun _ => zpc_if (fun _ => zpc_if (fun _ => w_fX12_sayPrefixed_176 hσ12) (fun _ => zpc_if (fun _ => w_fX12_sayPrefixed_176 hσ12) (fun _ => zpc_if (fun _ => w_fX12_sayPrefixed_214 hσ12) (fun _ => w_fX12_sayPrefixed_176 hσ12)))) (fun _ => w_fX12_sayPrefixed_176 hσ12)))))))))))
theorem w_fX12_sayOdd_155 {σ0 : zSt} {σ : zSt} (h : zKeM σ0 σ) : zpc (fX12_sayOdd_155 σ) (fun r => zKeM σ0 (r)) := by
  unfold fX12_sayOdd_155
  exact zpc_some h
theorem w_fX12_sayOdd_35 {σ0 : zSt} {σ : zSt} {s0 : Nat} (h : zKeM σ0 σ) : zpc (fX12_sayOdd_35 σ s0) (fun r => zKeM σ0 (r)) := by
  unfold fX12_sayOdd_35
  exact zpc_bu (w_fX12_say h) (fun σ1 hσ1 => w_fX12_sayOdd_155 hσ1)
theorem w_fX12_sayOdd_77 {σ0 : zSt} {σ : zSt} {s0 : Nat} (h : zKeM σ0 σ) : zpc (fX12_sayOdd_77 σ s0) (fun r => zKeM σ0 (r)) := by
  unfold fX12_sayOdd_77
  exact zpc_bu (w_fX12_say h) (fun σ2 hσ2 => w_fX12_sayOdd_155 hσ2)
theorem w_fX12_sayOdd_152 {σ0 : zSt} {σ : zSt} {s0 : Nat} (h : zKeM σ0 σ) : zpc (fX12_sayOdd_152 σ s0) (fun r => zKeM σ0 (r)) := by
  unfold fX12_sayOdd_152
  exact zpc_bu (w_fX12_say h) (fun σ3 hσ3 => w_fX12_sayOdd_155 hσ3)
theorem w_fX12_sayOdd {σ0 : zSt} {σ : zSt} {x1 : Int32} {x2 : Int32} (h : zKeM σ0 σ) : zpc (fX12_sayOdd σ x1 x2) (fun r => zKeM σ0 (r)) := by
  unfold fX12_sayOdd
  exact zpc_if (fun _ => zpc_bu (w_fX12_say h) (fun σ4 hσ4 => w_fX12_sayOdd_155 hσ4)) (fun _ => zpc_if (fun _ => zpc_if (fun _ => w_fX12_sayOdd_35 h) (fun _ => w_fX12_sayOdd_35 h)) (fun _ => zpc_if (fun _ => zpc_ck (zpc_if (fun _ => zpc_ck (zpc_if (fun _ => w_fX12_sayOdd_77 h) (fun _ => w_fX12_sayOdd_77 h))) (fun _ => w_fX12_sayOdd_77 h))) (fun _ => zpc_if (fun _ => w_fX12_sayOdd_152 h) (fun _ => zpc_if (fun _ => w_fX12_sayOdd_152 h) (fun _ => zpc_if (fun _ => w_fX12_sayOdd_152 h) (fun _ => zpc_if (fun _ => w_fX12_sayOdd_152 h) (fun _ => zpc_if (fun _ => w_fX12_sayOdd_152 h) (fun _ => zpc_if (fun _ => w_fX12_sayOdd_152 h) (fun _ => w_fX12_sayOdd_152 h)))))))))
theorem w_fX12_sayMore_325 {σ0 : zSt} {σ : zSt} (h : zKeM σ0 σ) : zpc (fX12_sayMore_325 σ) (fun r => zKeM σ0 (r)) := by
  unfold fX12_sayMore_325
  exact zpc_some h
theorem w_fX12_sayMore_164 {σ0 : zSt} {σ : zSt} (h : zKeM σ0 σ) : zpc (fX12_sayMore_164 σ) (fun r => zKeM σ0 (r)) := by
  unfold fX12_sayMore_164
  exact zpc_bu (w_fX12_say h) (fun σ1 hσ1 => w_fX12_sayMore_325 hσ1)
theorem w_fX12_sayMore_231 {σ0 : zSt} {σ : zSt} {x2 : Int32} {s0 : Nat} (h : zKeM σ0 σ) : zpc (fX12_sayMore_231 σ x2 s0) (fun r => zKeM σ0 (r)) := by
  unfold fX12_sayMore_231
  exact zpc_bu (w_fX12_say h) (fun σ2 hσ2 => zpc_bu (w_fX12_sayRp hσ2) (fun σ3 hσ3 => w_fX12_sayMore_325 hσ3))
theorem w_fX12_sayMore_316 {σ0 : zSt} {σ : zSt} (h : zKeM σ0 σ) : zpc (fX12_sayMore_316 σ) (fun r => zKeM σ0 (r)) := by
  unfold fX12_sayMore_316
  exact w_fX12_sayMore_325 h
theorem w_fX12_sayMore_286 {σ0 : zSt} {σ : zSt} {x2 : Int32} {x5 : Int32} (h : zKeM σ0 σ) : zpc (fX12_sayMore_286 σ x2 x5) (fun r => zKeM σ0 (r)) := by
  unfold fX12_sayMore_286
  exact zpc_bu (w_fX12_say h) (fun σ4 hσ4 => zpc_ck (zpc_if (fun _ => zpc_bu (w_fX12_sayRp hσ4) (fun σ6 hσ6 => w_fX12_sayMore_316 hσ6)) (fun _ => zpc_bu (w_fX12_sayPlaced hσ4) (fun σ5 hσ5 => w_fX12_sayMore_316 hσ5))))
theorem w_fX12_sayMore_119 {σ0 : zSt} {σ : zSt} {x2 : Int32} {x3 : Int32} {x4 : Int32} (h : zKeM σ0 σ) : zpc (fX12_sayMore_119 σ x2 x3 x4) (fun r => zKeM σ0 (r)) := by
  unfold fX12_sayMore_119
  exact zpc_if (fun _ => zpc_if (fun _ => zpc_bu (w_fX12_say h) (fun σ16 hσ16 => zpc_if (fun _ => w_fX12_sayMore_164 hσ16) (fun _ => zpc_bu (w_fX12_sayR hσ16) (fun σ17 hσ17 => zpc_bu (w_fX12_say hσ17) (fun σ18 hσ18 => w_fX12_sayMore_164 hσ18))))) (fun _ => zpc_if (fun _ => zpc_bu (w_fX12_say h) (fun σ13 hσ13 => zpc_if (fun _ => zpc_bu (w_fX12_say hσ13) (fun σ15 hσ15 => w_fX12_sayMore_325 hσ15)) (fun _ => zpc_bu (w_fX12_sayR hσ13) (fun σ14 hσ14 => w_fX12_sayMore_325 hσ14)))) (fun _ => zpc_if (fun _ => zpc_ck (zpc_if (fun _ => w_fX12_sayMore_231 h) (fun _ => w_fX12_sayMore_231 h))) (fun _ => zpc_if (fun _ => zpc_bu (w_fX12_say h) (fun σ8 hσ8 => zpc_bi (w_fX12_takenWord hσ8) (fun σ9 v10 hσ9 => zpc_ck (zpc_if (fun _ => zpc_bu (w_fX12_sayPlaced hσ9) (fun σ12 hσ12 => w_fX12_sayMore_286 hσ12)) (fun _ => zpc_bu (w_fX12_sayRp hσ9) (fun σ11 hσ11 => w_fX12_sayMore_286 hσ11)))))) (fun _ => zpc_bu (w_fX12_sayOdd h) (fun σ7 hσ7 => w_fX12_sayMore_325 hσ7)))))) (fun _ => zpc_bu (w_fX12_say h) (fun σ19 hσ19 => w_fX12_sayMore_325 hσ19))
theorem w_fX12_sayMore_101 {σ0 : zSt} {σ : zSt} {x2 : Int32} {s0 : Nat} (h : zKeM σ0 σ) : zpc (fX12_sayMore_101 σ x2 s0) (fun r => zKeM σ0 (r)) := by
  unfold fX12_sayMore_101
  exact zpc_bu (w_fX12_say h) (fun σ20 hσ20 => zpc_if (fun _ => w_fX12_sayMore_325 hσ20) (fun _ => zpc_bu (w_fX12_say hσ20) (fun σ21 hσ21 => w_fX12_sayMore_325 hσ21)))
theorem w_fX12_sayMore_82 {σ0 : zSt} {σ : zSt} {x2 : Int32} {s0 : Nat} (h : zKeM σ0 σ) : zpc (fX12_sayMore_82 σ x2 s0) (fun r => zKeM σ0 (r)) := by
  unfold fX12_sayMore_82
  exact zpc_bu (w_fX12_say h) (fun σ22 hσ22 => zpc_ck (zpc_if (fun _ => w_fX12_sayMore_101 hσ22) (fun _ => w_fX12_sayMore_101 hσ22)))
theorem w_fX12_sayMore {σ0 : zSt} {σ : zSt} {x1 : Int32} (h : zKeM σ0 σ) : zpc (fX12_sayMore σ x1) (fun r => zKeM σ0 (r)) := by
  unfold fX12_sayMore
  exact zpc_bv (fun v23 _ => zpc_bv (fun v24 _ => zpc_bv (fun v25 _ => zpc_if (fun _ => zpc_if (fun _ => w_fX12_sayMore_119 h) (fun _ => zpc_if (fun _ => w_fX12_sayMore_119 h) (fun _ => zpc_if (fun _ => w_fX12_sayMore_82 h) (fun _ => zpc_if (fun _ => w_fX12_sayMore_82 h) (fun _ => zpc_if (fun _ => w_fX12_sayMore_82 h) (fun _ => zpc_if (fun _ => w_fX12_sayMore_82 h) (fun _ => w_fX12_sayMore_82 h))))))) (fun _ => w_fX12_sayMore_119 h))))
theorem w_fX12_tell_112 {σ0 : zSt} {σ : zSt} {x2 : Int32} (h : zKeM σ0 σ) : zpc (fX12_tell_112 σ x2) (fun r => zKeM σ0 (r.1)) := by
  unfold fX12_tell_112
  exact zpc_some h
theorem w_fX12_tell_65 {σ0 : zSt} {σ : zSt} {x2 : Int32} {s0 : Int32} (h : zKeM σ0 σ) : zpc (fX12_tell_65 σ x2 s0) (fun r => zKeM σ0 (r.1)) := by
  unfold fX12_tell_65
  exact zpc_bu (w_fX12_sayPrefixed h) (fun σ1 hσ1 => w_fX12_tell_112 hσ1)
theorem w_fX12_tell_52 {σ0 : zSt} {σ : zSt} {x2 : Int32} {x3 : Int32} (h : zKeM σ0 σ) : zpc (fX12_tell_52 σ x2 x3) (fun r => zKeM σ0 (r.1)) := by
  unfold fX12_tell_52
  exact zpc_if (fun _ => w_fX12_tell_65 h) (fun _ => w_fX12_tell_65 h)
theorem w_fX12_tell {σ0 : zSt} {σ : zSt} {x1 : Int32} (h : zKeM σ0 σ) : zpc (fX12_tell σ x1) (fun r => zKeM σ0 (r.1)) := by
  unfold fX12_tell
  exact zpc_bs (zKeM.w0 h (by decide)) (fun σ2 hσ2 => zpc_bs (zKeM.w0 hσ2 (by decide)) (fun σ3 hσ3 => zpc_bs (zKeM.w0 hσ3 (by decide)) (fun σ4 hσ4 => zpc_bs (zKeM.w0 hσ4 (by decide)) (fun σ5 hσ5 => zpc_ck (zpc_bs (zKeM.w0 hσ5 (by decide)) (fun σ6 hσ6 => zpc_bv (fun v7 _ => zpc_bi (w_fX12_taken hσ6) (fun σ8 v9 hσ8 => zpc_if (fun _ => w_fX12_tell_52 hσ8) (fun _ => zpc_if (fun _ => w_fX12_tell_52 hσ8) (fun _ => zpc_if (fun _ => zpc_bi (w_fX12_taken hσ8) (fun σ14 v15 hσ14 => zpc_bu (w_fX12_sayTurn hσ14) (fun σ16 hσ16 => w_fX12_tell_112 hσ16))) (fun _ => zpc_if (fun _ => zpc_bi (w_fX12_taken hσ8) (fun σ11 v12 hσ11 => zpc_bu (w_fX12_sayMore hσ11) (fun σ13 hσ13 => w_fX12_tell_112 hσ13))) (fun _ => zpc_bu (w_fX12_sayPlain hσ8) (fun σ10 hσ10 => w_fX12_tell_112 hσ10)))))))))))))
theorem w_fX12_text_70 {σ0 : zSt} {k37 : zSt → Int32 → Int64 → Int32 → Option (zSt × Int64)} (hk37 : ∀ (y0 : zSt) (y1 : Int32) (y2 : Int64) (y3 : Int32), zKeM σ0 y0 → zpc (k37 y0 y1 y2 y3) (fun r => zKeM σ0 (r.1))) {σ : zSt} {x1 : Int32} {x4 : Int32} {s0 : Int32} {s1 : Int64} (h : zKeM σ0 σ) : zpc (fX12_text_70 k37 σ x1 x4 s0 s1) (fun r => zKeM σ0 (r.1)) := by
  unfold fX12_text_70
  exact zpc_bv (fun v1 _ => zpc_bv (fun v2 _ => hk37 _ _ _ _ h))
theorem w_fX12_text_37_body {σ0 : zSt} {k37 : zSt → Int32 → Int64 → Int32 → Option (zSt × Int64)} (hk37 : ∀ (y0 : zSt) (y1 : Int32) (y2 : Int64) (y3 : Int32), zKeM σ0 y0 → zpc (k37 y0 y1 y2 y3) (fun r => zKeM σ0 (r.1))) {σ : zSt} {x1 : Int32} {x2 : Int64} {x4 : Int32} (h : zKeM σ0 σ) : zpc (fX12_text_37_body k37 σ x1 x2 x4) (fun r => zKeM σ0 (r.1)) := by
  unfold fX12_text_37_body
  exact zpc_if (fun _ => zpc_some h) (fun _ => zpc_if (fun _ => w_fX12_text_70 hk37 h) (fun _ => zpc_ck (w_fX12_text_70 hk37 h)))
theorem w_fX12_text_37 {σ0 : zSt} : ∀ (n : Nat) (y0 : zSt) (y1 : Int32) (y2 : Int64) (y3 : Int32), zKeM σ0 y0 → zpc (fX12_text_37 n y0 y1 y2 y3) (fun r => zKeM σ0 (r.1)) := by
  intro n
  induction n with
  | zero => intro y0 y1 y2 y3 h; exact zpc_none
  | succ n ih => intro y0 y1 y2 y3 h; exact w_fX12_text_37_body ih h
theorem w_fX12_text_22 {σ0 : zSt} {σ : zSt} {x1 : Int32} {s0 : Int32} (h : zKeM σ0 σ) : zpc (fX12_text_22 σ x1 s0) (fun r => zKeM σ0 (r.1)) := by
  unfold fX12_text_22
  exact zpc_bi (w_fX12_fails h) (fun σ3 v4 hσ3 => zpc_if (fun _ => w_fX12_text_37 _ _ _ _ _ hσ3) (fun _ => zpc_some hσ3))
theorem w_fX12_text {σ0 : zSt} {σ : zSt} {x1 : Int32} (h : zKeM σ0 σ) : zpc (fX12_text σ x1) (fun r => zKeM σ0 (r.1)) := by
  unfold fX12_text
  exact zpc_bi (w_fX12_within h) (fun σ5 v6 hσ5 => zpc_if (fun _ => w_fX12_text_22 hσ5) (fun _ => w_fX12_text_22 hσ5))
