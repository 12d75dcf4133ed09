section ZJN0
theorem w_fX12_draws_168 {σ0 : zSt} : ∀ (n : Nat) (y0 : zSt) (y1 : Int32) (y2 : Int32) (y3 : Int32), zKeM σ0 y0 → zpc (fX12_draws_168 n y0 y1 y2 y3) (fun r => zKeM σ0 (r)) := by
  intro n
  induction n with
  | zero => intro y0 y1 y2 y3 h; exact zpc_none
  | succ n ih => intro y0 y1 y2 y3 h; exact w_fX12_draws_168_body ih h
theorem w_fX12_draws_123_body {σ0 : zSt} {k123 : zSt → Int32 → Int32 → Int32 → Option (zSt)} (hk123 : ∀ (y0 : zSt) (y1 : Int32) (y2 : Int32) (y3 : Int32), zKeM σ0 y0 → zpc (k123 y0 y1 y2 y3) (fun r => zKeM σ0 (r))) {σ : zSt} {x1 : Int32} {x2 : Int32} {x3 : Int32} (h : zKeM σ0 σ) : zpc (fX12_draws_123_body k123 σ x1 x2 x3) (fun r => zKeM σ0 (r)) := by
  unfold fX12_draws_123_body
  exact zpc_if (fun _ => w_fX12_draws_168 _ _ _ _ _ h) (fun _ => zpc_ck (zpc_if (fun _ => w_fX12_draws_160 hk123 h) (fun _ => zpc_ck (zpc_if (fun _ => zpc_ck (zpc_ck (zpc_bs (zKeM.wi h (by decide)) (fun σ21 hσ21 => w_fX12_draws_160 hk123 hσ21)))) (fun _ => w_fX12_draws_160 hk123 h)))))
theorem w_fX12_draws_123 {σ0 : zSt} : ∀ (n : Nat) (y0 : zSt) (y1 : Int32) (y2 : Int32) (y3 : Int32), zKeM σ0 y0 → zpc (fX12_draws_123 n y0 y1 y2 y3) (fun r => zKeM σ0 (r)) := by
  intro n
  induction n with
  | zero => intro y0 y1 y2 y3 h; exact zpc_none
  | succ n ih => intro y0 y1 y2 y3 h; exact w_fX12_draws_123_body ih h
theorem w_fX12_draws_97_body {σ0 : zSt} {k97 : zSt → Int32 → Int32 → Int32 → Option (zSt)} (hk97 : ∀ (y0 : zSt) (y1 : Int32) (y2 : Int32) (y3 : Int32), zKeM σ0 y0 → zpc (k97 y0 y1 y2 y3) (fun r => zKeM σ0 (r))) {σ : zSt} {x1 : Int32} {x2 : Int32} {x3 : Int32} (h : zKeM σ0 σ) : zpc (fX12_draws_97_body k97 σ x1 x2 x3) (fun r => zKeM σ0 (r)) := by
  unfold fX12_draws_97_body
  exact zpc_if (fun _ => zpc_bu (w_fX12_sprites h) (fun σ22 hσ22 => w_fX12_draws_123 _ _ _ _ _ hσ22)) (fun _ => zpc_bu (w_fX12_tile h) (fun σ23 hσ23 => zpc_bv (fun v24 _ => hk97 _ _ _ _ hσ23)))
theorem w_fX12_draws_97 {σ0 : zSt} : ∀ (n : Nat) (y0 : zSt) (y1 : Int32) (y2 : Int32) (y3 : Int32), zKeM σ0 y0 → zpc (fX12_draws_97 n y0 y1 y2 y3) (fun r => zKeM σ0 (r)) := by
  intro n
  induction n with
  | zero => intro y0 y1 y2 y3 h; exact zpc_none
  | succ n ih => intro y0 y1 y2 y3 h; exact w_fX12_draws_97_body ih h
theorem w_fX12_draws_35_body {σ0 : zSt} {k35 : zSt → Int32 → Int32 → Int32 → Option (zSt)} (hk35 : ∀ (y0 : zSt) (y1 : Int32) (y2 : Int32) (y3 : Int32), zKeM σ0 y0 → zpc (k35 y0 y1 y2 y3) (fun r => zKeM σ0 (r))) {σ : zSt} {x1 : Int32} {x2 : Int32} {x3 : Int32} (h : zKeM σ0 σ) : zpc (fX12_draws_35_body k35 σ x1 x2 x3) (fun r => zKeM σ0 (r)) := by
  unfold fX12_draws_35_body
  exact zpc_if (fun _ => zpc_bi (w_fX12_bit h) (fun σ25 v26 hσ25 => zpc_if (fun _ => zpc_bi (w_fX12_mode hσ25) (fun σ27 v28 hσ27 => zpc_if (fun _ => w_fX12_draws_97 _ _ _ _ _ hσ27) (fun _ => w_fX12_draws_200 hσ27))) (fun _ => w_fX12_draws_200 hσ25))) (fun _ => zpc_ck (zpc_bs (zKeM.wi h (by decide)) (fun σ29 hσ29 => zpc_ck (zpc_bs (zKeM.wi hσ29 (by decide)) (fun σ30 hσ30 => zpc_ck (zpc_bs (zKeM.wi hσ30 (by decide)) (fun σ31 hσ31 => zpc_ck (zpc_bs (zKeM.wi hσ31 (by decide)) (fun σ32 hσ32 => zpc_bv (fun v33 _ => hk35 _ _ _ _ hσ32))))))))))
theorem w_fX12_draws_35 {σ0 : zSt} : ∀ (n : Nat) (y0 : zSt) (y1 : Int32) (y2 : Int32) (y3 : Int32), zKeM σ0 y0 → zpc (fX12_draws_35 n y0 y1 y2 y3) (fun r => zKeM σ0 (r)) := by
  intro n
  induction n with
  | zero => intro y0 y1 y2 y3 h; exact zpc_none
  | succ n ih => intro y0 y1 y2 y3 h; exact w_fX12_draws_35_body ih h
theorem w_fX12_draws_32 {σ0 : zSt} {σ : zSt} {x1 : Int32} {s0 : Int32} (h : zKeM σ0 σ) : zpc (fX12_draws_32 σ x1 s0) (fun r => zKeM σ0 (r)) := by
  unfold fX12_draws_32
  exact w_fX12_draws_35 _ _ _ _ _ h
theorem w_fX12_draws {σ0 : zSt} {σ : zSt} {x1 : Int32} (h : zKeM σ0 σ) : zpc (fX12_draws σ x1) (fun r => zKeM σ0 (r)) := by
  unfold fX12_draws
  exact zpc_bi (w_fX12_mode h) (fun σ34 v35 hσ34 => zpc_if (fun _ => zpc_bi (w_fX12_reg hσ34) (fun σ38 v39 hσ38 => zpc_ck (w_fX12_draws_32 hσ38))) (fun _ => zpc_bi (w_fX12_reg hσ34) (fun σ36 v37 hσ36 => zpc_ck (w_fX12_draws_32 hσ36))))
theorem w_fX12_planned_113 {σ0 : zSt} {σ : zSt} (h : zKeM σ0 σ) : zpc (fX12_planned_113 σ) (fun r => zKeM σ0 (r)) := by
  unfold fX12_planned_113
  exact zpc_some h
theorem w_fX12_planned_68_body {σ0 : zSt} {k0 : zSt → Option (zSt)} (hk0 : ∀ (y0 : zSt), zKeM σ0 y0 → zpc (k0 y0) (fun r => zKeM σ0 (r))) {k68 : zSt → Int32 → Option (zSt)} (hk68 : ∀ (y0 : zSt) (y1 : Int32), zKeM σ0 y0 → zpc (k68 y0 y1) (fun r => zKeM σ0 (r))) {σ : zSt} {x1 : Int32} (h : zKeM σ0 σ) : zpc (fX12_planned_68_body k0 k68 σ x1) (fun r => zKeM σ0 (r)) := by
  unfold fX12_planned_68_body
  exact zpc_ck (zpc_if (fun _ => hk0 _ h) (fun _ => zpc_ck (zpc_ck (zpc_bs (zKeM.wi h (by decide)) (fun σ1 hσ1 => zpc_bv (fun v2 _ => hk68 _ _ hσ1))))))
theorem w_fX12_planned_68 {σ0 : zSt} {k0 : zSt → Option (zSt)} (hk0 : ∀ (y0 : zSt), zKeM σ0 y0 → zpc (k0 y0) (fun r => zKeM σ0 (r))) : ∀ (n : Nat) (y0 : zSt) (y1 : Int32), zKeM σ0 y0 → zpc (fX12_planned_68 k0 n y0 y1) (fun r => zKeM σ0 (r)) := by
  intro n
  induction n with
  | zero => intro y0 y1 h; exact zpc_none
  | succ n ih => intro y0 y1 h; exact w_fX12_planned_68_body hk0 ih h
theorem w_fX12_planned_0_body {σ0 : zSt} {k0 : zSt → Option (zSt)} (hk0 : ∀ (y0 : zSt), zKeM σ0 y0 → zpc (k0 y0) (fun r => zKeM σ0 (r))) {σ : zSt} (h : zKeM σ0 σ) : zpc (fX12_planned_0_body k0 σ) (fun r => zKeM σ0 (r)) := by
  unfold fX12_planned_0_body
  exact zpc_ck (zpc_if (fun _ => w_fX12_planned_113 h) (fun _ => zpc_ck (zpc_ck (zpc_if (fun _ => w_fX12_planned_113 h) (fun _ => zpc_ck (zpc_ck (zpc_ck (zpc_bs (zKeM.wi h (by decide)) (fun σ3 hσ3 => zpc_ck (zpc_ck (zpc_bs (zKeM.wi hσ3 (by decide)) (fun σ4 hσ4 => w_fX12_planned_68 hk0 _ _ _ hσ4))))))))))))
theorem w_fX12_planned_0 {σ0 : zSt} : ∀ (n : Nat) (y0 : zSt), zKeM σ0 y0 → zpc (fX12_planned_0 n y0) (fun r => zKeM σ0 (r)) := by
  intro n
  induction n with
  | zero => intro y0 h; exact zpc_none
  | succ n ih => intro y0 h; exact w_fX12_planned_0_body ih h
theorem w_fX12_planned {σ0 : zSt} {σ : zSt} (h : zKeM σ0 σ) : zpc (fX12_planned σ) (fun r => zKeM σ0 (r)) := by
  unfold fX12_planned
  exact w_fX12_planned_0 _ _ h
theorem w_fX12_ends_195 {σ0 : zSt} {σ : zSt} (h : zKeM σ0 σ) : zpc (fX12_ends_195 σ) (fun r => zKeM σ0 (r)) := by
  unfold fX12_ends_195
  exact zpc_some h
theorem w_fX12_ends_169 {σ0 : zSt} {σ : zSt} {x1 : Int32} (h : zKeM σ0 σ) : zpc (fX12_ends_169 σ x1) (fun r => zKeM σ0 (r)) := by
  unfold fX12_ends_169
  exact zpc_ck (zpc_if (fun _ => zpc_ck (zpc_ck (zpc_bs (zKeM.wi h (by decide)) (fun σ1 hσ1 => w_fX12_ends_195 hσ1)))) (fun _ => w_fX12_ends_195 h))
theorem w_fX12_ends_131 {σ0 : zSt} {σ : zSt} {x1 : Int32} {s0 : Int32} {s1 : Int32} (h : zKeM σ0 σ) : zpc (fX12_ends_131 σ x1 s0 s1) (fun r => zKeM σ0 (r)) := by
  unfold fX12_ends_131
  exact zpc_if (fun _ => zpc_ck (zpc_bs (zKeM.wi h (by decide)) (fun σ2 hσ2 => zpc_bi (w_fX12_reg hσ2) (fun σ3 v4 hσ3 => zpc_ck (zpc_bs (zKeM.wi hσ3 (by decide)) (fun σ5 hσ5 => zpc_ck (zpc_ck (zpc_bs (zKeM.wl hσ5) (fun σ6 hσ6 => zpc_bu (w_fX12_planned hσ6) (fun σ7 hσ7 => w_fX12_ends_169 hσ7)))))))))) (fun _ => w_fX12_ends_169 h)
theorem w_fX12_ends_96 {σ0 : zSt} {σ : zSt} {x1 : Int32} (h : zKeM σ0 σ) : zpc (fX12_ends_96 σ x1) (fun r => zKeM σ0 (r)) := by
  unfold fX12_ends_96
  exact zpc_ck (zpc_ck (zpc_bs (zKeM.wi h (by decide)) (fun σ8 hσ8 => zpc_ck (zpc_if (fun _ => w_fX12_ends_131 hσ8) (fun _ => w_fX12_ends_131 hσ8)))))
theorem w_fX12_ends_27 {σ0 : zSt} {σ : zSt} {x1 : Int32} (h : zKeM σ0 σ) : zpc (fX12_ends_27 σ x1) (fun r => zKeM σ0 (r)) := by
  unfold fX12_ends_27
  exact zpc_ck (zpc_if (fun _ => zpc_bi (w_fX12_reg h) (fun σ9 v10 hσ9 => zpc_ck (zpc_bs (zKeM.wi hσ9 (by decide)) (fun σ11 hσ11 => w_fX12_ends_96 hσ11)))) (fun _ => zpc_ck (zpc_ck (zpc_bs (zKeM.wi h (by decide)) (fun σ12 hσ12 => zpc_ck (zpc_if (fun _ => w_fX12_ends_96 hσ12) (fun _ => zpc_bi (w_fX12_reg hσ12) (fun σ13 v14 hσ13 => zpc_ck (zpc_bs (zKeM.wi hσ13 (by decide)) (fun σ15 hσ15 => zpc_ck (zpc_bs (zKeM.wi hσ15 (by decide)) (fun σ16 hσ16 => w_fX12_ends_96 hσ16))))))))))))
theorem w_fX12_ends {σ0 : zSt} {σ : zSt} (h : zKeM σ0 σ) : zpc (fX12_ends σ) (fun r => zKeM σ0 (r)) := by
  unfold fX12_ends
  exact zpc_bi (w_fX12_height h) (fun σ17 v18 hσ17 => zpc_ck (zpc_if (fun _ => w_fX12_ends_27 hσ17) (fun _ => zpc_ck (zpc_bu (w_fX12_draws hσ17) (fun σ19 hσ19 => w_fX12_ends_27 hσ19)))))
theorem w_fX12_loudness {σ0 : zSt} {σ : zSt} {x0 : Int32} (h : zKeM σ0 σ) : zpc (fX12_loudness σ x0) (fun r => zKeM σ0 (r.1)) := by
  unfold fX12_loudness
  exact zpc_if (fun _ => zpc_some h) (fun _ => zpc_if (fun _ => zpc_some h) (fun _ => zpc_if (fun _ => zpc_some h) (fun _ => zpc_if (fun _ => zpc_some h) (fun _ => zpc_if (fun _ => zpc_some h) (fun _ => zpc_if (fun _ => zpc_some h) (fun _ => zpc_if (fun _ => zpc_some h) (fun _ => zpc_if (fun _ => zpc_some h) (fun _ => zpc_if (fun _ => zpc_some h) (fun _ => zpc_if (fun _ => zpc_some h) (fun _ => zpc_if (fun _ => zpc_some h) (fun _ => zpc_if (fun _ => zpc_some h) (fun _ => zpc_if (fun _ => zpc_some h) (fun _ => zpc_if (fun _ => zpc_some h) (fun _ => zpc_if (fun _ => zpc_some h) (fun _ => zpc_some h)))))))))))))))
theorem w_fX12_sample_102 {σ0 : zSt} {k2 : zSt → Int32 → Option (zSt)} (hk2 : ∀ (y0 : zSt) (y1 : Int32), zKeM σ0 y0 → zpc (k2 y0 y1) (fun r => zKeM σ0 (r))) {σ : zSt} {x1 : Int32} (h : zKeM σ0 σ) : zpc (fX12_sample_102 k2 σ x1) (fun r => zKeM σ0 (r)) := by
  unfold fX12_sample_102
  exact zpc_bv (fun v1 _ => hk2 _ _ h)
theorem w_fX12_sample_101 {σ0 : zSt} {k2 : zSt → Int32 → Option (zSt)} (hk2 : ∀ (y0 : zSt) (y1 : Int32), zKeM σ0 y0 → zpc (k2 y0 y1) (fun r => zKeM σ0 (r))) {σ : zSt} {x1 : Int32} {s0 : Int32} {s1 : Int32} (h : zKeM σ0 σ) : zpc (fX12_sample_101 k2 σ x1 s0 s1) (fun r => zKeM σ0 (r)) := by
  unfold fX12_sample_101
  exact zpc_ck (zpc_bs (zKeM.wi h (by decide)) (fun σ2 hσ2 => w_fX12_sample_102 hk2 hσ2))
theorem w_fX12_sample_32 {σ0 : zSt} {k2 : zSt → Int32 → Option (zSt)} (hk2 : ∀ (y0 : zSt) (y1 : Int32), zKeM σ0 y0 → zpc (k2 y0 y1) (fun r => zKeM σ0 (r))) {σ : zSt} {x1 : Int32} (h : zKeM σ0 σ) : zpc (fX12_sample_32 k2 σ x1) (fun r => zKeM σ0 (r)) := by
  unfold fX12_sample_32
  exact zpc_ck (zpc_if (fun _ => zpc_ck (zpc_ck (zpc_bs (zKeM.wi h (by decide)) (fun σ3 hσ3 => zpc_ck (zpc_if (fun _ => zpc_ck (w_fX12_sample_101 hk2 hσ3)) (fun _ => w_fX12_sample_101 hk2 hσ3)))))) (fun _ => w_fX12_sample_102 hk2 h))
theorem w_fX12_sample_407 {σ0 : zSt} {k275 : zSt → Int64 → Int64 → Int32 → Option (zSt)} (hk275 : ∀ (y0 : zSt) (y1 : Int64) (y2 : Int64) (y3 : Int32), zKeM σ0 y0 → zpc (k275 y0 y1 y2 y3) (fun r => zKeM σ0 (r))) {σ : zSt} {x1 : Int64} {x3 : Int64} {x5 : Int32} (h : zKeM σ0 σ) : zpc (fX12_sample_407 k275 σ x1 x3 x5) (fun r => zKeM σ0 (r)) := by
  unfold fX12_sample_407
  exact zpc_bv (fun v4 _ => hk275 _ _ _ _ h)
theorem w_fX12_sample_369 {σ0 : zSt} {k275 : zSt → Int64 → Int64 → Int32 → Option (zSt)} (hk275 : ∀ (y0 : zSt) (y1 : Int64) (y2 : Int64) (y3 : Int32), zKeM σ0 y0 → zpc (k275 y0 y1 y2 y3) (fun r => zKeM σ0 (r))) {σ : zSt} {x1 : Int64} {x3 : Int64} {x5 : Int32} {x6 : Int32} (h : zKeM σ0 σ) : zpc (fX12_sample_369 k275 σ x1 x3 x5 x6) (fun r => zKeM σ0 (r)) := by
  unfold fX12_sample_369
  exact zpc_if (fun _ => w_fX12_sample_407 hk275 h) (fun _ => zpc_ck (zpc_if (fun _ => zpc_ck (zpc_bi (w_fX12_loudness h) (fun σ5 v6 hσ5 => zpc_bv (fun v7 _ => w_fX12_sample_407 hk275 hσ5)))) (fun _ => w_fX12_sample_407 hk275 h)))
theorem w_fX12_sample_327 {σ0 : zSt} {k275 : zSt → Int64 → Int64 → Int32 → Option (zSt)} (hk275 : ∀ (y0 : zSt) (y1 : Int64) (y2 : Int64) (y3 : Int32), zKeM σ0 y0 → zpc (k275 y0 y1 y2 y3) (fun r => zKeM σ0 (r))) {σ : zSt} {x1 : Int64} {x3 : Int64} {x5 : Int32} {s0 : Int32} (h : zKeM σ0 σ) : zpc (fX12_sample_327 k275 σ x1 x3 x5 s0) (fun r => zKeM σ0 (r)) := by
  unfold fX12_sample_327
  exact zpc_if (fun _ => w_fX12_sample_369 hk275 h) (fun _ => zpc_ck (zpc_if (fun _ => zpc_ck (zpc_bi (w_fX12_loudness h) (fun σ8 v9 hσ8 => zpc_bv (fun v10 _ => w_fX12_sample_369 hk275 hσ8)))) (fun _ => w_fX12_sample_369 hk275 h)))
theorem w_fX12_sample_508 {σ0 : zSt} {σ : zSt} {x1 : Int64} {x3 : Int64} (h : zKeM σ0 σ) : zpc (fX12_sample_508 σ x1 x3) (fun r => zKeM σ0 (r)) := by
  unfold fX12_sample_508
  exact zpc_ck (zpc_ck (zpc_ck (zpc_ck (zpc_bs (zKeM.wl h) (fun σ11 hσ11 => zpc_some hσ11)))))
theorem w_fX12_sample_275_body {σ0 : zSt} {k275 : zSt → Int64 → Int64 → Int32 → Option (zSt)} (hk275 : ∀ (y0 : zSt) (y1 : Int64) (y2 : Int64) (y3 : Int32), zKeM σ0 y0 → zpc (k275 y0 y1 y2 y3) (fun r => zKeM σ0 (r))) {σ : zSt} {x1 : Int64} {x3 : Int64} {x5 : Int32} (h : zKeM σ0 σ) : zpc (fX12_sample_275_body k275 σ x1 x3 x5) (fun r => zKeM σ0 (r)) := by
  unfold fX12_sample_275_body
  exact zpc_if (fun _ => zpc_ck (zpc_ck (zpc_bs (zKeM.wl h) (fun σ12 hσ12 => zpc_ck (zpc_ck (zpc_bs (zKeM.wi hσ12 (by decide)) (fun σ13 hσ13 => zpc_ck (zpc_ck (zpc_bs (zKeM.wi hσ13 (by decide)) (fun σ14 hσ14 => zpc_ck (zpc_ck (zpc_bs (zKeM.wi hσ14 (by decide)) (fun σ15 hσ15 => zpc_ck (zpc_if (fun _ => zpc_ck (zpc_ck (zpc_ck (zpc_bs (zKeM.wi hσ15 (by decide)) (fun σ17 hσ17 => w_fX12_sample_508 hσ17))))) (fun _ => zpc_ck (zpc_ck (zpc_bs (zKeM.wi hσ15 (by decide)) (fun σ16 hσ16 => w_fX12_sample_508 hσ16)))))))))))))))))) (fun _ => zpc_if (fun _ => zpc_ck (zpc_if (fun _ => w_fX12_sample_327 hk275 h) (fun _ => w_fX12_sample_327 hk275 h))) (fun _ => zpc_ck (zpc_if (fun _ => w_fX12_sample_327 hk275 h) (fun _ => w_fX12_sample_327 hk275 h))))
theorem w_fX12_sample_275 {σ0 : zSt} : ∀ (n : Nat) (y0 : zSt) (y1 : Int64) (y2 : Int64) (y3 : Int32), zKeM σ0 y0 → zpc (fX12_sample_275 n y0 y1 y2 y3) (fun r => zKeM σ0 (r)) := by
  intro n
  induction n with
  | zero => intro y0 y1 y2 y3 h; exact zpc_none
  | succ n ih => intro y0 y1 y2 y3 h; exact w_fX12_sample_275_body ih h
theorem w_fX12_sample_268 {σ0 : zSt} {σ : zSt} (h : zKeM σ0 σ) : zpc (fX12_sample_268 σ) (fun r => zKeM σ0 (r)) := by
  unfold fX12_sample_268
  exact w_fX12_sample_275 _ _ _ _ _ h
theorem w_fX12_sample_246 {σ0 : zSt} {σ : zSt} {s0 : Int32} (h : zKeM σ0 σ) : zpc (fX12_sample_246 σ s0) (fun r => zKeM σ0 (r)) := by
  unfold fX12_sample_246
  exact zpc_ck (zpc_ck (zpc_bs (zKeM.wi h (by decide)) (fun σ18 hσ18 => w_fX12_sample_268 hσ18)))
theorem w_fX12_sample_174 {σ0 : zSt} {σ : zSt} {s0 : Int32} {s1 : Int32} (h : zKeM σ0 σ) : zpc (fX12_sample_174 σ s0 s1) (fun r => zKeM σ0 (r)) := by
  unfold fX12_sample_174
  exact zpc_ck (zpc_bs (zKeM.wi h (by decide)) (fun σ19 hσ19 => zpc_ck (zpc_ck (zpc_bs (zKeM.wi hσ19 (by decide)) (fun σ20 hσ20 => zpc_ck (zpc_if (fun _ => zpc_ck (zpc_if (fun _ => zpc_ck (zpc_ck (w_fX12_sample_246 hσ20))) (fun _ => zpc_ck (w_fX12_sample_246 hσ20)))) (fun _ => w_fX12_sample_268 hσ20)))))))
theorem w_fX12_sample_129 {σ0 : zSt} {σ : zSt} (h : zKeM σ0 σ) : zpc (fX12_sample_129 σ) (fun r => zKeM σ0 (r)) := by
  unfold fX12_sample_129
  exact zpc_ck (zpc_if (fun _ => zpc_ck (zpc_ck (zpc_bv (fun v21 _ => zpc_if (fun _ => zpc_ck (w_fX12_sample_174 h)) (fun _ => w_fX12_sample_174 h))))) (fun _ => w_fX12_sample_268 h))
theorem w_fX12_sample_2_body {σ0 : zSt} {k2 : zSt → Int32 → Option (zSt)} (hk2 : ∀ (y0 : zSt) (y1 : Int32), zKeM σ0 y0 → zpc (k2 y0 y1) (fun r => zKeM σ0 (r))) {σ : zSt} {x1 : Int32} (h : zKeM σ0 σ) : zpc (fX12_sample_2_body k2 σ x1) (fun r => zKeM σ0 (r)) := by
  unfold fX12_sample_2_body
  exact zpc_if (fun _ => zpc_ck (zpc_if (fun _ => w_fX12_sample_129 h) (fun _ => zpc_ck (zpc_ck (zpc_bs (zKeM.wi h (by decide)) (fun σ22 hσ22 => w_fX12_sample_129 hσ22)))))) (fun _ => zpc_ck (zpc_if (fun _ => w_fX12_sample_32 hk2 h) (fun _ => zpc_bv (fun v23 _ => zpc_ck (zpc_ck (zpc_bs (zKeM.wi h (by decide)) (fun σ24 hσ24 => w_fX12_sample_32 hk2 hσ24)))))))
theorem w_fX12_sample_2 {σ0 : zSt} : ∀ (n : Nat) (y0 : zSt) (y1 : Int32), zKeM σ0 y0 → zpc (fX12_sample_2 n y0 y1) (fun r => zKeM σ0 (r)) := by
  intro n
  induction n with
  | zero => intro y0 y1 h; exact zpc_none
  | succ n ih => intro y0 y1 h; exact w_fX12_sample_2_body ih h
theorem w_fX12_sample {σ0 : zSt} {σ : zSt} (h : zKeM σ0 σ) : zpc (fX12_sample σ) (fun r => zKeM σ0 (r)) := by
  unfold fX12_sample
  exact w_fX12_sample_2 _ _ _ h
theorem w_fX12_wreg {σ0 : zSt} {σ : zSt} {x1 : Int32} (h : zKeM σ0 σ) : zpc (fX12_wreg σ x1) (fun r => zKeM σ0 (r.1)) := by
  unfold fX12_wreg
  exact zpc_ck (zpc_some h)
theorem w_fX12_isRhythm_22 {σ0 : zSt} {σ : zSt} {s0 : Int32} (h : zKeM σ0 σ) : zpc (fX12_isRhythm_22 σ s0) (fun r => zKeM σ0 (r.1)) := by
  unfold fX12_isRhythm_22
  exact zpc_ck (zpc_some h)
theorem w_fX12_isRhythm_21 {σ0 : zSt} {σ : zSt} (h : zKeM σ0 σ) : zpc (fX12_isRhythm_21 σ) (fun r => zKeM σ0 (r.1)) := by
  unfold fX12_isRhythm_21
  exact w_fX12_isRhythm_22 h
theorem w_fX12_isRhythm {σ0 : zSt} {σ : zSt} {x1 : Int32} (h : zKeM σ0 σ) : zpc (fX12_isRhythm σ x1) (fun r => zKeM σ0 (r.1)) := by
  unfold fX12_isRhythm
  exact zpc_if (fun _ => w_fX12_isRhythm_21 h) (fun _ => zpc_bi (w_fX12_wreg h) (fun σ1 v2 hσ1 => zpc_if (fun _ => w_fX12_isRhythm_21 hσ1) (fun _ => w_fX12_isRhythm_22 hσ1)))
theorem w_fX12_isOn_60 {σ0 : zSt} {σ : zSt} {x3 : Int32} {s0 : Int32} (h : zKeM σ0 σ) : zpc (fX12_isOn_60 σ x3 s0) (fun r => zKeM σ0 (r.1)) := by
  unfold fX12_isOn_60
  exact zpc_bi (w_fX12_wreg h) (fun σ1 v2 hσ1 => zpc_some hσ1)
theorem w_fX12_isOn {σ0 : zSt} {σ : zSt} {x1 : Int32} {x2 : Int32} (h : zKeM σ0 σ) : zpc (fX12_isOn σ x1 x2) (fun r => zKeM σ0 (r.1)) := by
  unfold fX12_isOn
  exact zpc_bi (w_fX12_wreg h) (fun σ3 v4 hσ3 => zpc_bv (fun v5 _ => zpc_bi (w_fX12_isRhythm hσ3) (fun σ6 v7 hσ6 => zpc_if (fun _ => zpc_some hσ6) (fun _ => zpc_if (fun _ => w_fX12_isOn_60 hσ6) (fun _ => zpc_if (fun _ => zpc_if (fun _ => w_fX12_isOn_60 hσ6) (fun _ => w_fX12_isOn_60 hσ6)) (fun _ => zpc_if (fun _ => w_fX12_isOn_60 hσ6) (fun _ => w_fX12_isOn_60 hσ6)))))))
theorem w_fX12_digit_20 {σ0 : zSt} {σ : zSt} {s0 : Int32} (h : zKeM σ0 σ) : zpc (fX12_digit_20 σ s0) (fun r => zKeM σ0 (r.1)) := by
  unfold fX12_digit_20
  exact zpc_some h
theorem w_fX12_digit {σ0 : zSt} {σ : zSt} {x0 : Int32} (h : zKeM σ0 σ) : zpc (fX12_digit σ x0) (fun r => zKeM σ0 (r.1)) := by
  unfold fX12_digit
  exact zpc_if (fun _ => w_fX12_digit_20 h) (fun _ => w_fX12_digit_20 h)
theorem w_fX12_patchByte_25 {σ0 : zSt} {σ : zSt} {x2 : Int32} {s0 : Int32} (h : zKeM σ0 σ) : zpc (fX12_patchByte_25 σ x2 s0) (fun r => zKeM σ0 (r.1)) := by
  unfold fX12_patchByte_25
  exact zpc_if (fun _ => zpc_bi (w_fX12_wreg h) (fun σ6 v7 hσ6 => zpc_some hσ6)) (fun _ => zpc_bv (fun v1 _ => zpc_ck (zpc_ck (zpc_bi (w_fX12_digit h) (fun σ2 v3 hσ2 => zpc_ck (zpc_ck (zpc_bi (w_fX12_digit hσ2) (fun σ4 v5 hσ4 => zpc_some hσ4))))))))
theorem w_fX12_patchByte {σ0 : zSt} {σ : zSt} {x1 : Int32} {x2 : Int32} (h : zKeM σ0 σ) : zpc (fX12_patchByte σ x1 x2) (fun r => zKeM σ0 (r.1)) := by
  unfold fX12_patchByte
  exact zpc_bi (w_fX12_isRhythm h) (fun σ8 v9 hσ8 => zpc_if (fun _ => zpc_bi (w_fX12_wreg hσ8) (fun σ10 v11 hσ10 => w_fX12_patchByte_25 hσ10)) (fun _ => w_fX12_patchByte_25 hσ8))
theorem w_fX12_rate_140 {σ0 : zSt} {σ : zSt} {s0 : Int32} (h : zKeM σ0 σ) : zpc (fX12_rate_140 σ s0) (fun r => zKeM σ0 (r.1)) := by
  unfold fX12_rate_140
  exact zpc_some h
theorem w_fX12_rate_99 {σ0 : zSt} {σ : zSt} {s0 : Int32} (h : zKeM σ0 σ) : zpc (fX12_rate_99 σ s0) (fun r => zKeM σ0 (r.1)) := by
  unfold fX12_rate_99
  exact zpc_some h
theorem w_fX12_rate_17 {σ0 : zSt} {σ : zSt} {x1 : Int32} {x2 : Int32} {x3 : Int32} {s0 : Int32} (h : zKeM σ0 σ) : zpc (fX12_rate_17 σ x1 x2 x3 s0) (fun r => zKeM σ0 (r.1)) := by
  unfold fX12_rate_17
  exact zpc_if (fun _ => zpc_some h) (fun _ => zpc_if (fun _ => zpc_bi (w_fX12_patchByte h) (fun σ1 v2 hσ1 => zpc_some hσ1)) (fun _ => zpc_if (fun _ => zpc_bi (w_fX12_patchByte h) (fun σ3 v4 hσ3 => zpc_some hσ3)) (fun _ => zpc_if (fun _ => zpc_if (fun _ => zpc_bi (w_fX12_patchByte h) (fun σ5 v6 hσ5 => w_fX12_rate_99 hσ5)) (fun _ => w_fX12_rate_99 h)) (fun _ => zpc_bi (w_fX12_wreg h) (fun σ7 v8 hσ7 => zpc_if (fun _ => zpc_if (fun _ => w_fX12_rate_140 hσ7) (fun _ => zpc_bi (w_fX12_patchByte hσ7) (fun σ9 v10 hσ9 => w_fX12_rate_140 hσ9))) (fun _ => w_fX12_rate_140 hσ7))))))
theorem w_fX12_rate {σ0 : zSt} {σ : zSt} {x1 : Int32} {x2 : Int32} {x3 : Int32} (h : zKeM σ0 σ) : zpc (fX12_rate σ x1 x2 x3) (fun r => zKeM σ0 (r.1)) := by
  unfold fX12_rate
  exact zpc_bi (w_fX12_patchByte h) (fun σ11 v12 hσ11 => zpc_if (fun _ => w_fX12_rate_17 hσ11) (fun _ => w_fX12_rate_17 hσ11))
theorem w_fX12_block {σ0 : zSt} {σ : zSt} {x1 : Int32} (h : zKeM σ0 σ) : zpc (fX12_block σ x1) (fun r => zKeM σ0 (r.1)) := by
  unfold fX12_block
  exact zpc_bi (w_fX12_wreg h) (fun σ1 v2 hσ1 => zpc_some hσ1)
theorem w_fX12_f {σ0 : zSt} {σ : zSt} {x1 : Int32} (h : zKeM σ0 σ) : zpc (fX12_f σ x1) (fun r => zKeM σ0 (r.1)) := by
  unfold fX12_f
  exact zpc_bi (w_fX12_wreg h) (fun σ1 v2 hσ1 => zpc_bi (w_fX12_wreg hσ1) (fun σ3 v4 hσ3 => zpc_some hσ3))
theorem w_fX12_t_40 {σ0 : zSt} {σ : zSt} {s0 : Int32} (h : zKeM σ0 σ) : zpc (fX12_t_40 σ s0) (fun r => zKeM σ0 (r.1)) := by
  unfold fX12_t_40
  exact zpc_some h
theorem w_fX12_t_35 {σ0 : zSt} {σ : zSt} (h : zKeM σ0 σ) : zpc (fX12_t_35 σ) (fun r => zKeM σ0 (r.1)) := by
  unfold fX12_t_35
  exact w_fX12_t_40 h
theorem w_fX12_t_39 {σ0 : zSt} {σ : zSt} (h : zKeM σ0 σ) : zpc (fX12_t_39 σ) (fun r => zKeM σ0 (r.1)) := by
  unfold fX12_t_39
  exact w_fX12_t_40 h
theorem w_fX12_t_19 {σ0 : zSt} {σ : zSt} {x0 : Int32} {x1 : Int32} (h : zKeM σ0 σ) : zpc (fX12_t_19 σ x0 x1) (fun r => zKeM σ0 (r.1)) := by
  unfold fX12_t_19
  exact zpc_if (fun _ => w_fX12_t_39 h) (fun _ => zpc_if (fun _ => w_fX12_t_35 h) (fun _ => zpc_if (fun _ => w_fX12_t_35 h) (fun _ => w_fX12_t_39 h)))
theorem w_fX12_t {σ0 : zSt} {σ : zSt} {x0 : Int32} {x1 : Int32} (h : zKeM σ0 σ) : zpc (fX12_t σ x0 x1) (fun r => zKeM σ0 (r.1)) := by
  unfold fX12_t
  exact zpc_ck (zpc_if (fun _ => w_fX12_t_35 h) (fun _ => zpc_ck (zpc_if (fun _ => zpc_if (fun _ => w_fX12_t_35 h) (fun _ => w_fX12_t_19 h)) (fun _ => w_fX12_t_19 h))))
theorem w_fX12_envelope_275 {σ0 : zSt} {σ : zSt} {s0 : Int32} {s1 : Int32} (h : zKeM σ0 σ) : zpc (fX12_envelope_275 σ s0 s1) (fun r => zKeM σ0 (r)) := by
  unfold fX12_envelope_275
  exact zpc_ck (zpc_bs (zKeM.wi h (by decide)) (fun σ1 hσ1 => zpc_some hσ1))
theorem w_fX12_envelope_259 {σ0 : zSt} {σ : zSt} {x1 : Int32} {x15 : Int32} (h : zKeM σ0 σ) : zpc (fX12_envelope_259 σ x1 x15) (fun r => zKeM σ0 (r)) := by
  unfold fX12_envelope_259
  exact zpc_if (fun _ => w_fX12_envelope_275 h) (fun _ => w_fX12_envelope_275 h)
theorem w_fX12_envelope_220 {σ0 : zSt} {σ : zSt} {x1 : Int32} {s0 : Int32} (h : zKeM σ0 σ) : zpc (fX12_envelope_220 σ x1 s0) (fun r => zKeM σ0 (r)) := by
  unfold fX12_envelope_220
  exact w_fX12_envelope_259 h
theorem w_fX12_envelope_257 {σ0 : zSt} {σ : zSt} {x1 : Int32} {s0 : Int32} (h : zKeM σ0 σ) : zpc (fX12_envelope_257 σ x1 s0) (fun r => zKeM σ0 (r)) := by
  unfold fX12_envelope_257
  exact w_fX12_envelope_259 h
theorem w_fX12_envelope_358 {σ0 : zSt} {σ : zSt} {s0 : Int32} {s1 : Int32} (h : zKeM σ0 σ) : zpc (fX12_envelope_358 σ s0 s1) (fun r => zKeM σ0 (r)) := by
  unfold fX12_envelope_358
  exact zpc_ck (zpc_bs (zKeM.wi h (by decide)) (fun σ2 hσ2 => zpc_some hσ2))
theorem w_fX12_envelope_336 {σ0 : zSt} {σ : zSt} {x1 : Int32} {s0 : Int32} {s1 : Int32} (h : zKeM σ0 σ) : zpc (fX12_envelope_336 σ x1 s0 s1) (fun r => zKeM σ0 (r)) := by
  unfold fX12_envelope_336
  exact zpc_bv (fun v3 _ => zpc_if (fun _ => w_fX12_envelope_358 h) (fun _ => w_fX12_envelope_358 h))
theorem w_fX12_envelope_159 {σ0 : zSt} {σ : zSt} {x1 : Int32} {x4 : Int32} {x7 : Int32} {x8 : Int32} {x9 : Int64} {s0 : Int32} (h : zKeM σ0 σ) : zpc (fX12_envelope_159 σ x1 x4 x7 x8 x9 s0) (fun r => zKeM σ0 (r)) := by
  unfold fX12_envelope_159
  exact zpc_ck (zpc_ck (zpc_bv (fun v4 _ => zpc_ck (zpc_bv (fun v5 _ => zpc_if (fun _ => zpc_if (fun _ => zpc_if (fun _ => w_fX12_envelope_257 h) (fun _ => zpc_bi (w_fX12_t h) (fun σ10 v11 hσ10 => w_fX12_envelope_257 hσ10))) (fun _ => zpc_if (fun _ => zpc_ck (w_fX12_envelope_220 h)) (fun _ => w_fX12_envelope_220 h))) (fun _ => zpc_if (fun _ => zpc_if (fun _ => zpc_ck (zpc_bi (w_fX12_t h) (fun σ8 v9 hσ8 => w_fX12_envelope_336 hσ8))) (fun _ => zpc_if (fun _ => zpc_bi (w_fX12_t h) (fun σ6 v7 hσ6 => w_fX12_envelope_336 hσ6)) (fun _ => w_fX12_envelope_336 h))) (fun _ => w_fX12_envelope_336 h)))))))
theorem w_fX12_envelope_158 {σ0 : zSt} {σ : zSt} {x1 : Int32} {x4 : Int32} {x7 : Int32} {x8 : Int32} {x9 : Int64} (h : zKeM σ0 σ) : zpc (fX12_envelope_158 σ x1 x4 x7 x8 x9) (fun r => zKeM σ0 (r)) := by
  unfold fX12_envelope_158
  exact w_fX12_envelope_159 h
theorem w_fX12_envelope_121 {σ0 : zSt} {σ : zSt} {x1 : Int32} {x4 : Int32} {x7 : Int32} {x8 : Int32} {x9 : Int64} {s0 : Int64} (h : zKeM σ0 σ) : zpc (fX12_envelope_121 σ x1 x4 x7 x8 x9 s0) (fun r => zKeM σ0 (r)) := by
  unfold fX12_envelope_121
  exact zpc_if (fun _ => w_fX12_envelope_158 h) (fun _ => zpc_ck (zpc_if (fun _ => zpc_ck (zpc_ck (zpc_bi (w_fX12_t h) (fun σ12 v13 hσ12 => w_fX12_envelope_159 hσ12)))) (fun _ => w_fX12_envelope_158 h)))
theorem w_fX12_envelope_87 {σ0 : zSt} {σ : zSt} {x1 : Int32} {x4 : Int32} {x6 : Int32} {s0 : Int32} (h : zKeM σ0 σ) : zpc (fX12_envelope_87 σ x1 x4 x6 s0) (fun r => zKeM σ0 (r)) := by
  unfold fX12_envelope_87
  exact zpc_ck (zpc_bv (fun v14 _ => zpc_ck (zpc_bv (fun v15 _ => zpc_if (fun _ => w_fX12_envelope_121 h) (fun _ => w_fX12_envelope_121 h)))))
theorem w_fX12_envelope_63 {σ0 : zSt} {σ : zSt} {x1 : Int32} {x4 : Int32} {x5 : Int32} {x6 : Int32} (h : zKeM σ0 σ) : zpc (fX12_envelope_63 σ x1 x4 x5 x6) (fun r => zKeM σ0 (r)) := by
  unfold fX12_envelope_63
  exact zpc_ck (zpc_if (fun _ => zpc_ck (w_fX12_envelope_87 h)) (fun _ => w_fX12_envelope_87 h))
theorem w_fX12_envelope {σ0 : zSt} {σ : zSt} {x1 : Int32} {x2 : Int32} {x3 : Int32} (h : zKeM σ0 σ) : zpc (fX12_envelope σ x1 x2 x3) (fun r => zKeM σ0 (r)) := by
  unfold fX12_envelope
  exact zpc_ck (zpc_bv (fun v16 _ => zpc_bi (w_fX12_rate h) (fun σ17 v18 hσ17 => zpc_if (fun _ => zpc_some hσ17) (fun _ => zpc_bi (w_fX12_block hσ17) (fun σ19 v20 hσ19 => zpc_bi (w_fX12_f hσ19) (fun σ21 v22 hσ21 => zpc_ck (zpc_bv (fun v23 _ => zpc_bi (w_fX12_patchByte hσ21) (fun σ24 v25 hσ24 => zpc_if (fun _ => zpc_ck (zpc_bv (fun v26 _ => w_fX12_envelope_63 hσ24))) (fun _ => w_fX12_envelope_63 hσ24))))))))))
theorem w_fX12_phase_150 {σ0 : zSt} {σ : zSt} {x1 : Int32} {x2 : Int32} {x5 : Int32} {x6 : Int32} (h : zKeM σ0 σ) : zpc (fX12_phase_150 σ x1 x2 x5 x6) (fun r => zKeM σ0 (r)) := by
  unfold fX12_phase_150
  exact zpc_ck (zpc_bi (w_fX12_f h) (fun σ1 v2 hσ1 => zpc_bi (w_fX12_block hσ1) (fun σ3 v4 hσ3 => zpc_ck (zpc_ck (zpc_bs (zKeM.wi hσ3 (by decide)) (fun σ5 hσ5 => zpc_some hσ5))))))
theorem w_fX12_phase_148 {σ0 : zSt} {σ : zSt} {x1 : Int32} {x2 : Int32} {x5 : Int32} {s0 : Int32} (h : zKeM σ0 σ) : zpc (fX12_phase_148 σ x1 x2 x5 s0) (fun r => zKeM σ0 (r)) := by
  unfold fX12_phase_148
  exact w_fX12_phase_150 h
theorem w_fX12_phase_132 {σ0 : zSt} {σ : zSt} {x1 : Int32} {x2 : Int32} {x5 : Int32} {x7 : Int32} {s0 : Int32} (h : zKeM σ0 σ) : zpc (fX12_phase_132 σ x1 x2 x5 x7 s0) (fun r => zKeM σ0 (r)) := by
  unfold fX12_phase_132
  exact zpc_if (fun _ => w_fX12_phase_148 h) (fun _ => w_fX12_phase_148 h)
theorem w_fX12_phase_60 {σ0 : zSt} {σ : zSt} {x1 : Int32} {x2 : Int32} {x3 : Int32} {s0 : Int32} (h : zKeM σ0 σ) : zpc (fX12_phase_60 σ x1 x2 x3 s0) (fun r => zKeM σ0 (r)) := by
  unfold fX12_phase_60
  exact zpc_bi (w_fX12_patchByte h) (fun σ6 v7 hσ6 => zpc_if (fun _ => w_fX12_phase_150 hσ6) (fun _ => zpc_ck (zpc_ck (zpc_ck (zpc_bv (fun v8 _ => zpc_bi (w_fX12_f hσ6) (fun σ9 v10 hσ9 => zpc_ck (zpc_bv (fun v11 _ => zpc_ck (zpc_if (fun _ => w_fX12_phase_132 hσ9) (fun _ => zpc_ck (zpc_if (fun _ => w_fX12_phase_132 hσ9) (fun _ => zpc_ck (w_fX12_phase_132 hσ9))))))))))))))
theorem w_fX12_phase {σ0 : zSt} {σ : zSt} {x1 : Int32} {x2 : Int32} {x3 : Int32} (h : zKeM σ0 σ) : zpc (fX12_phase σ x1 x2 x3) (fun r => zKeM σ0 (r)) := by
  unfold fX12_phase
  exact zpc_bi (w_fX12_patchByte h) (fun σ12 v13 hσ12 => zpc_bv (fun v14 _ => zpc_if (fun _ => w_fX12_phase_60 hσ12) (fun _ => zpc_if (fun _ => zpc_if (fun _ => w_fX12_phase_60 hσ12) (fun _ => zpc_if (fun _ => w_fX12_phase_60 hσ12) (fun _ => w_fX12_phase_60 hσ12))) (fun _ => w_fX12_phase_60 hσ12))))
theorem w_fX12_drum_191 {σ0 : zSt} {σ : zSt} {s0 : Int32} (h : zKeM σ0 σ) : zpc (fX12_drum_191 σ s0) (fun r => zKeM σ0 (r.1)) := by
  unfold fX12_drum_191
  exact zpc_some h
theorem w_fX12_drum_214 {σ0 : zSt} {σ : zSt} {s0 : Int32} (h : zKeM σ0 σ) : zpc (fX12_drum_214 σ s0) (fun r => zKeM σ0 (r.1)) := by
  unfold fX12_drum_214
  exact zpc_some h
theorem w_fX12_drum_148 {σ0 : zSt} {σ : zSt} {x1 : Int32} {x2 : Int32} {x3 : Int32} {x6 : Int32} {x7 : Int32} (h : zKeM σ0 σ) : zpc (fX12_drum_148 σ x1 x2 x3 x6 x7) (fun r => zKeM σ0 (r.1)) := by
  unfold fX12_drum_148
  exact zpc_if (fun _ => zpc_if (fun _ => zpc_if (fun _ => w_fX12_drum_191 h) (fun _ => w_fX12_drum_191 h)) (fun _ => zpc_if (fun _ => w_fX12_drum_191 h) (fun _ => w_fX12_drum_191 h))) (fun _ => zpc_if (fun _ => w_fX12_drum_214 h) (fun _ => zpc_if (fun _ => w_fX12_drum_214 h) (fun _ => w_fX12_drum_214 h)))
theorem w_fX12_drum_147 {σ0 : zSt} {σ : zSt} {s0 : Int32} (h : zKeM σ0 σ) : zpc (fX12_drum_147 σ s0) (fun r => zKeM σ0 (r.1)) := by
  unfold fX12_drum_147
  exact zpc_some h
theorem w_fX12_drum_100 {σ0 : zSt} {σ : zSt} {x1 : Int32} {x2 : Int32} {x3 : Int32} {x6 : Int32} {s0 : Int32} (h : zKeM σ0 σ) : zpc (fX12_drum_100 σ x1 x2 x3 x6 s0) (fun r => zKeM σ0 (r.1)) := by
  unfold fX12_drum_100
  exact zpc_if (fun _ => zpc_if (fun _ => zpc_if (fun _ => zpc_if (fun _ => w_fX12_drum_147 h) (fun _ => w_fX12_drum_147 h)) (fun _ => zpc_if (fun _ => w_fX12_drum_147 h) (fun _ => w_fX12_drum_147 h))) (fun _ => w_fX12_drum_148 h)) (fun _ => w_fX12_drum_148 h)
theorem w_fX12_drum_79 {σ0 : zSt} {σ : zSt} {x1 : Int32} {x2 : Int32} {x3 : Int32} {s0 : Int32} (h : zKeM σ0 σ) : zpc (fX12_drum_79 σ x1 x2 x3 s0) (fun r => zKeM σ0 (r.1)) := by
  unfold fX12_drum_79
  exact zpc_ck (zpc_if (fun _ => w_fX12_drum_100 h) (fun _ => w_fX12_drum_100 h))
theorem w_fX12_drum_74 {σ0 : zSt} {σ : zSt} {x1 : Int32} {x2 : Int32} {x3 : Int32} (h : zKeM σ0 σ) : zpc (fX12_drum_74 σ x1 x2 x3) (fun r => zKeM σ0 (r.1)) := by
  unfold fX12_drum_74
  exact w_fX12_drum_79 h
theorem w_fX12_drum {σ0 : zSt} {σ : zSt} {x1 : Int32} {x2 : Int32} {x3 : Int32} (h : zKeM σ0 σ) : zpc (fX12_drum σ x1 x2 x3) (fun r => zKeM σ0 (r.1)) := by
  unfold fX12_drum
  exact zpc_ck (zpc_ck (zpc_bv (fun v1 _ => zpc_ck (zpc_ck (zpc_bv (fun v2 _ => zpc_if (fun _ => zpc_if (fun _ => zpc_if (fun _ => w_fX12_drum_79 h) (fun _ => w_fX12_drum_74 h)) (fun _ => w_fX12_drum_74 h)) (fun _ => w_fX12_drum_74 h)))))))
theorem w_fX12_kept_97 {σ0 : zSt} {σ : zSt} {s0 : Int32} (h : zKeM σ0 σ) : zpc (fX12_kept_97 σ s0) (fun r => zKeM σ0 (r.1)) := by
  unfold fX12_kept_97
  exact zpc_some h
theorem w_fX12_kept {σ0 : zSt} {σ : zSt} {x0 : Int32} (h : zKeM σ0 σ) : zpc (fX12_kept σ x0) (fun r => zKeM σ0 (r.1)) := by
  unfold fX12_kept
  exact zpc_if (fun _ => w_fX12_kept_97 h) (fun _ => zpc_if (fun _ => w_fX12_kept_97 h) (fun _ => zpc_if (fun _ => w_fX12_kept_97 h) (fun _ => zpc_if (fun _ => w_fX12_kept_97 h) (fun _ => zpc_if (fun _ => w_fX12_kept_97 h) (fun _ => zpc_if (fun _ => w_fX12_kept_97 h) (fun _ => zpc_if (fun _ => w_fX12_kept_97 h) (fun _ => zpc_if (fun _ => w_fX12_kept_97 h) (fun _ => zpc_if (fun _ => w_fX12_kept_97 h) (fun _ => w_fX12_kept_97 h)))))))))
theorem w_fX12_waveAt_376 {σ0 : zSt} {σ : zSt} {s0 : Int32} (h : zKeM σ0 σ) : zpc (fX12_waveAt_376 σ s0) (fun r => zKeM σ0 (r.1)) := by
  unfold fX12_waveAt_376
  exact zpc_some h
theorem w_fX12_waveAt_296 {σ0 : zSt} {σ : zSt} {x2 : Int32} {x3 : Int32} {x4 : Int32} {x5 : Int32} {s0 : Int32} (h : zKeM σ0 σ) : zpc (fX12_waveAt_296 σ x2 x3 x4 x5 s0) (fun r => zKeM σ0 (r.1)) := by
  unfold fX12_waveAt_296
  exact zpc_ck (zpc_bv (fun v1 _ => zpc_ck (zpc_ck (zpc_ck (zpc_bv (fun v2 _ => zpc_if (fun _ => zpc_some h) (fun _ => zpc_bi (w_fX12_patchByte h) (fun σ3 v4 hσ3 => zpc_if (fun _ => w_fX12_waveAt_376 hσ3) (fun _ => w_fX12_waveAt_376 hσ3)))))))))
theorem w_fX12_waveAt_263 {σ0 : zSt} {σ : zSt} {x1 : Int32} {x2 : Int32} {x3 : Int32} {x4 : Int32} {x5 : Int32} {x8 : Int32} {x11 : Int32} {s0 : Int32} (h : zKeM σ0 σ) : zpc (fX12_waveAt_263 σ x1 x2 x3 x4 x5 x8 x11 s0) (fun r => zKeM σ0 (r.1)) := by
  unfold fX12_waveAt_263
  exact zpc_ck (zpc_bv (fun v5 _ => zpc_if (fun _ => w_fX12_waveAt_296 h) (fun _ => w_fX12_waveAt_296 h)))
theorem w_fX12_waveAt_260 {σ0 : zSt} {σ : zSt} {x1 : Int32} {x2 : Int32} {x3 : Int32} {x4 : Int32} {x5 : Int32} {x8 : Int32} {x11 : Int32} {s0 : Int32} (h : zKeM σ0 σ) : zpc (fX12_waveAt_260 σ x1 x2 x3 x4 x5 x8 x11 s0) (fun r => zKeM σ0 (r.1)) := by
  unfold fX12_waveAt_260
  exact zpc_ck (w_fX12_waveAt_263 h)
theorem w_fX12_waveAt_206 {σ0 : zSt} {σ : zSt} {x1 : Int32} {x2 : Int32} {x3 : Int32} {x4 : Int32} {x5 : Int32} {x8 : Int32} {s0 : Int32} (h : zKeM σ0 σ) : zpc (fX12_waveAt_206 σ x1 x2 x3 x4 x5 x8 s0) (fun r => zKeM σ0 (r.1)) := by
  unfold fX12_waveAt_206
  exact zpc_ck (zpc_ck (zpc_ck (zpc_bv (fun v6 _ => zpc_bi (w_fX12_patchByte h) (fun σ7 v8 hσ7 => zpc_if (fun _ => w_fX12_waveAt_263 hσ7) (fun _ => zpc_if (fun _ => w_fX12_waveAt_260 hσ7) (fun _ => w_fX12_waveAt_260 hσ7)))))))
theorem w_fX12_waveAt_192 {σ0 : zSt} {σ : zSt} {x1 : Int32} {x2 : Int32} {x3 : Int32} {x4 : Int32} {x5 : Int32} {x8 : Int32} {x9 : Int32} (h : zKeM σ0 σ) : zpc (fX12_waveAt_192 σ x1 x2 x3 x4 x5 x8 x9) (fun r => zKeM σ0 (r.1)) := by
  unfold fX12_waveAt_192
  exact zpc_ck (zpc_ck (w_fX12_waveAt_206 h))
theorem w_fX12_waveAt_123 {σ0 : zSt} {σ : zSt} {x1 : Int32} {x2 : Int32} {x3 : Int32} {x4 : Int32} {x5 : Int32} {s0 : Int32} (h : zKeM σ0 σ) : zpc (fX12_waveAt_123 σ x1 x2 x3 x4 x5 s0) (fun r => zKeM σ0 (r.1)) := by
  unfold fX12_waveAt_123
  exact zpc_bi (w_fX12_patchByte h) (fun σ9 v10 hσ9 => zpc_bv (fun v11 _ => zpc_bi (w_fX12_wreg hσ9) (fun σ12 v13 hσ12 => zpc_bv (fun v14 _ => zpc_if (fun _ => w_fX12_waveAt_206 hσ12) (fun _ => zpc_bi (w_fX12_isRhythm hσ12) (fun σ15 v16 hσ15 => zpc_if (fun _ => w_fX12_waveAt_192 hσ15) (fun _ => zpc_if (fun _ => w_fX12_waveAt_192 hσ15) (fun _ => zpc_bi (w_fX12_wreg hσ15) (fun σ17 v18 hσ17 => w_fX12_waveAt_206 hσ17)))))))))
theorem w_fX12_waveAt_91 {σ0 : zSt} {σ : zSt} {x1 : Int32} {x2 : Int32} {x3 : Int32} {x4 : Int32} {x5 : Int32} (h : zKeM σ0 σ) : zpc (fX12_waveAt_91 σ x1 x2 x3 x4 x5) (fun r => zKeM σ0 (r.1)) := by
  unfold fX12_waveAt_91
  exact w_fX12_waveAt_123 h
theorem w_fX12_waveAt_41 {σ0 : zSt} {σ : zSt} {x1 : Int32} {x2 : Int32} {x3 : Int32} {x4 : Int32} {s0 : Int32} (h : zKeM σ0 σ) : zpc (fX12_waveAt_41 σ x1 x2 x3 x4 s0) (fun r => zKeM σ0 (r.1)) := by
  unfold fX12_waveAt_41
  exact zpc_bi (w_fX12_patchByte h) (fun σ19 v20 hσ19 => zpc_bv (fun v21 _ => zpc_bi (w_fX12_f hσ19) (fun σ22 v23 hσ22 => zpc_ck (zpc_bi (w_fX12_kept hσ22) (fun σ24 v25 hσ24 => zpc_bi (w_fX12_block hσ24) (fun σ26 v27 hσ26 => zpc_bv (fun v28 _ => zpc_if (fun _ => w_fX12_waveAt_91 hσ26) (fun _ => zpc_if (fun _ => w_fX12_waveAt_91 hσ26) (fun _ => zpc_if (fun _ => zpc_ck (w_fX12_waveAt_123 hσ26)) (fun _ => zpc_if (fun _ => zpc_ck (w_fX12_waveAt_123 hσ26)) (fun _ => w_fX12_waveAt_123 hσ26)))))))))))
theorem w_fX12_waveAt {σ0 : zSt} {σ : zSt} {x1 : Int32} {x2 : Int32} {x3 : Int32} {x4 : Int32} (h : zKeM σ0 σ) : zpc (fX12_waveAt σ x1 x2 x3 x4) (fun r => zKeM σ0 (r.1)) := by
  unfold fX12_waveAt
  exact zpc_ck (zpc_if (fun _ => zpc_if (fun _ => zpc_ck (w_fX12_waveAt_41 h)) (fun _ => zpc_ck (w_fX12_waveAt_41 h))) (fun _ => zpc_some h))
theorem w_fX12_operator_319 {σ0 : zSt} {σ : zSt} {x1 : Int32} {x2 : Int32} {x3 : Int32} {x5 : Int32} {x8 : Int32} (h : zKeM σ0 σ) : zpc (fX12_operator_319 σ x1 x2 x3 x5 x8) (fun r => zKeM σ0 (r)) := by
  unfold fX12_operator_319
  exact zpc_ck (zpc_bs (zKeM.wi h (by decide)) (fun σ1 hσ1 => zpc_bi (w_fX12_waveAt hσ1) (fun σ2 v3 hσ2 => zpc_ck (zpc_bs (zKeM.wi hσ2 (by decide)) (fun σ4 hσ4 => zpc_some hσ4)))))
theorem w_fX12_operator_266 {σ0 : zSt} {σ : zSt} {x1 : Int32} {x2 : Int32} {x3 : Int32} {x5 : Int32} {s0 : Int32} (h : zKeM σ0 σ) : zpc (fX12_operator_266 σ x1 x2 x3 x5 s0) (fun r => zKeM σ0 (r)) := by
  unfold fX12_operator_266
  exact zpc_ck (zpc_ck (zpc_bv (fun v5 _ => zpc_bi (w_fX12_isRhythm h) (fun σ6 v7 hσ6 => zpc_if (fun _ => w_fX12_operator_319 hσ6) (fun _ => zpc_if (fun _ => w_fX12_operator_319 hσ6) (fun _ => zpc_ck (zpc_ck (zpc_bi (w_fX12_drum hσ6) (fun σ8 v9 hσ8 => w_fX12_operator_319 hσ8)))))))))
theorem w_fX12_operator_190 {σ0 : zSt} {σ : zSt} {x1 : Int32} {x2 : Int32} {x3 : Int32} (h : zKeM σ0 σ) : zpc (fX12_operator_190 σ x1 x2 x3) (fun r => zKeM σ0 (r)) := by
  unfold fX12_operator_190
  exact zpc_bu (w_fX12_phase h) (fun σ10 hσ10 => zpc_ck (zpc_bv (fun v11 _ => zpc_bi (w_fX12_patchByte hσ10) (fun σ12 v13 hσ12 => zpc_bv (fun v14 _ => zpc_if (fun _ => zpc_ck (w_fX12_operator_266 hσ12)) (fun _ => zpc_if (fun _ => w_fX12_operator_266 hσ12) (fun _ => zpc_ck (zpc_ck (w_fX12_operator_266 hσ12)))))))))
theorem w_fX12_operator_146 {σ0 : zSt} {σ : zSt} {x1 : Int32} {x2 : Int32} {x3 : Int32} (h : zKeM σ0 σ) : zpc (fX12_operator_146 σ x1 x2 x3) (fun r => zKeM σ0 (r)) := by
  unfold fX12_operator_146
  exact zpc_ck (zpc_if (fun _ => zpc_ck (zpc_ck (zpc_bi (w_fX12_patchByte h) (fun σ15 v16 hσ15 => zpc_if (fun _ => w_fX12_operator_190 hσ15) (fun _ => zpc_ck (zpc_bs (zKeM.wi hσ15 (by decide)) (fun σ17 hσ17 => w_fX12_operator_190 hσ17))))))) (fun _ => w_fX12_operator_190 h))
theorem w_fX12_operator_113 {σ0 : zSt} {σ : zSt} {x1 : Int32} {x2 : Int32} {x3 : Int32} (h : zKeM σ0 σ) : zpc (fX12_operator_113 σ x1 x2 x3) (fun r => zKeM σ0 (r)) := by
  unfold fX12_operator_113
  exact zpc_ck (zpc_if (fun _ => zpc_ck (zpc_if (fun _ => zpc_ck (zpc_bs (zKeM.wi h (by decide)) (fun σ18 hσ18 => w_fX12_operator_190 hσ18))) (fun _ => w_fX12_operator_146 h))) (fun _ => w_fX12_operator_146 h))
theorem w_fX12_operator_53 {σ0 : zSt} {σ : zSt} {x1 : Int32} {x2 : Int32} {x3 : Int32} {x4 : Int32} (h : zKeM σ0 σ) : zpc (fX12_operator_53 σ x1 x2 x3 x4) (fun r => zKeM σ0 (r)) := by
  unfold fX12_operator_53
  exact zpc_ck (zpc_bs (zKeM.wi h (by decide)) (fun σ19 hσ19 => zpc_bu (w_fX12_envelope hσ19) (fun σ20 hσ20 => zpc_ck (zpc_if (fun _ => zpc_ck (zpc_if (fun _ => w_fX12_operator_113 hσ20) (fun _ => zpc_ck (zpc_bs (zKeM.wi hσ20 (by decide)) (fun σ21 hσ21 => zpc_ck (zpc_bs (zKeM.wi hσ21 (by decide)) (fun σ22 hσ22 => w_fX12_operator_190 hσ22))))))) (fun _ => w_fX12_operator_113 hσ20)))))
theorem w_fX12_operator_52 {σ0 : zSt} {σ : zSt} {x1 : Int32} {x2 : Int32} {x3 : Int32} {x4 : Int32} {s0 : Int32} {s1 : Int32} (h : zKeM σ0 σ) : zpc (fX12_operator_52 σ x1 x2 x3 x4 s0 s1) (fun r => zKeM σ0 (r)) := by
  unfold fX12_operator_52
  exact zpc_ck (zpc_bs (zKeM.wi h (by decide)) (fun σ23 hσ23 => w_fX12_operator_53 hσ23))
theorem w_fX12_operator {σ0 : zSt} {σ : zSt} {x1 : Int32} {x2 : Int32} (h : zKeM σ0 σ) : zpc (fX12_operator σ x1 x2) (fun r => zKeM σ0 (r)) := by
  unfold fX12_operator
  exact zpc_bv (fun v24 _ => zpc_bi (w_fX12_isOn h) (fun σ25 v26 hσ25 => zpc_ck (zpc_if (fun _ => w_fX12_operator_53 hσ25) (fun _ => zpc_if (fun _ => w_fX12_operator_52 hσ25) (fun _ => w_fX12_operator_52 hσ25)))))
theorem w_fX12_waves_20_body {σ0 : zSt} {k12 : zSt → Int32 → Option (zSt)} (hk12 : ∀ (y0 : zSt) (y1 : Int32), zKeM σ0 y0 → zpc (k12 y0 y1) (fun r => zKeM σ0 (r))) {k20 : zSt → Int32 → Int32 → Option (zSt)} (hk20 : ∀ (y0 : zSt) (y1 : Int32) (y2 : Int32), zKeM σ0 y0 → zpc (k20 y0 y1 y2) (fun r => zKeM σ0 (r))) {σ : zSt} {x1 : Int32} {x2 : Int32} (h : zKeM σ0 σ) : zpc (fX12_waves_20_body k12 k20 σ x1 x2) (fun r => zKeM σ0 (r)) := by
  unfold fX12_waves_20_body
  exact zpc_if (fun _ => zpc_bv (fun v1 _ => hk12 _ _ h)) (fun _ => zpc_bu (w_fX12_operator h) (fun σ2 hσ2 => zpc_bv (fun v3 _ => hk20 _ _ _ hσ2)))
theorem w_fX12_waves_20 {σ0 : zSt} {k12 : zSt → Int32 → Option (zSt)} (hk12 : ∀ (y0 : zSt) (y1 : Int32), zKeM σ0 y0 → zpc (k12 y0 y1) (fun r => zKeM σ0 (r))) : ∀ (n : Nat) (y0 : zSt) (y1 : Int32) (y2 : Int32), zKeM σ0 y0 → zpc (fX12_waves_20 k12 n y0 y1 y2) (fun r => zKeM σ0 (r)) := by
  intro n
  induction n with
  | zero => intro y0 y1 y2 h; exact zpc_none
  | succ n ih => intro y0 y1 y2 h; exact w_fX12_waves_20_body hk12 ih h
theorem w_fX12_waves_157 {σ0 : zSt} {k82 : zSt → Int32 → Int32 → Option (zSt)} (hk82 : ∀ (y0 : zSt) (y1 : Int32) (y2 : Int32), zKeM σ0 y0 → zpc (k82 y0 y1 y2) (fun r => zKeM σ0 (r))) {σ : zSt} {x2 : Int32} {x3 : Int32} (h : zKeM σ0 σ) : zpc (fX12_waves_157 k82 σ x2 x3) (fun r => zKeM σ0 (r)) := by
  unfold fX12_waves_157
  exact zpc_bv (fun v4 _ => hk82 _ _ _ h)
theorem w_fX12_waves_153 {σ0 : zSt} {k82 : zSt → Int32 → Int32 → Option (zSt)} (hk82 : ∀ (y0 : zSt) (y1 : Int32) (y2 : Int32), zKeM σ0 y0 → zpc (k82 y0 y1 y2) (fun r => zKeM σ0 (r))) {σ : zSt} {x3 : Int32} {s0 : Int32} {s1 : Int32} {s2 : Int32} {s3 : Int32} (h : zKeM σ0 σ) : zpc (fX12_waves_153 k82 σ x3 s0 s1 s2 s3) (fun r => zKeM σ0 (r)) := by
  unfold fX12_waves_153
  exact zpc_bv (fun v5 _ => w_fX12_waves_157 hk82 h)
theorem w_fX12_waves_82_body {σ0 : zSt} {k82 : zSt → Int32 → Int32 → Option (zSt)} (hk82 : ∀ (y0 : zSt) (y1 : Int32) (y2 : Int32), zKeM σ0 y0 → zpc (k82 y0 y1 y2) (fun r => zKeM σ0 (r))) {σ : zSt} {x2 : Int32} {x3 : Int32} (h : zKeM σ0 σ) : zpc (fX12_waves_82_body k82 σ x2 x3) (fun r => zKeM σ0 (r)) := by
  unfold fX12_waves_82_body
  exact zpc_if (fun _ => zpc_ck (zpc_bs (zKeM.wi h (by decide)) (fun σ6 hσ6 => zpc_some hσ6))) (fun _ => zpc_bv (fun v7 _ => zpc_bi (w_fX12_isRhythm h) (fun σ8 v9 hσ8 => zpc_if (fun _ => zpc_ck (zpc_bv (fun v10 _ => w_fX12_waves_157 hk82 hσ8))) (fun _ => zpc_ck (zpc_if (fun _ => w_fX12_waves_153 hk82 hσ8) (fun _ => zpc_ck (w_fX12_waves_153 hk82 hσ8)))))))
theorem w_fX12_waves_82 {σ0 : zSt} : ∀ (n : Nat) (y0 : zSt) (y1 : Int32) (y2 : Int32), zKeM σ0 y0 → zpc (fX12_waves_82 n y0 y1 y2) (fun r => zKeM σ0 (r)) := by
  intro n
  induction n with
  | zero => intro y0 y1 y2 h; exact zpc_none
  | succ n ih => intro y0 y1 y2 h; exact w_fX12_waves_82_body ih h
theorem w_fX12_waves_75 {σ0 : zSt} {σ : zSt} {s0 : Int32} {s1 : Int32} (h : zKeM σ0 σ) : zpc (fX12_waves_75 σ s0 s1) (fun r => zKeM σ0 (r)) := by
  unfold fX12_waves_75
  exact zpc_ck (zpc_bs (zKeM.wi h (by decide)) (fun σ11 hσ11 => w_fX12_waves_82 _ _ _ _ hσ11))
theorem w_fX12_waves_12_body {σ0 : zSt} {k12 : zSt → Int32 → Option (zSt)} (hk12 : ∀ (y0 : zSt) (y1 : Int32), zKeM σ0 y0 → zpc (k12 y0 y1) (fun r => zKeM σ0 (r))) {σ : zSt} {x1 : Int32} (h : zKeM σ0 σ) : zpc (fX12_waves_12_body k12 σ x1) (fun r => zKeM σ0 (r)) := by
  unfold fX12_waves_12_body
  exact zpc_if (fun _ => zpc_ck (zpc_bv (fun v12 _ => zpc_if (fun _ => w_fX12_waves_75 h) (fun _ => w_fX12_waves_75 h)))) (fun _ => w_fX12_waves_20 hk12 _ _ _ _ h)
theorem w_fX12_waves_12 {σ0 : zSt} : ∀ (n : Nat) (y0 : zSt) (y1 : Int32), zKeM σ0 y0 → zpc (fX12_waves_12 n y0 y1) (fun r => zKeM σ0 (r)) := by
  intro n
  induction n with
  | zero => intro y0 y1 h; exact zpc_none
  | succ n ih => intro y0 y1 h; exact w_fX12_waves_12_body ih h
theorem w_fX12_waves {σ0 : zSt} {σ : zSt} (h : zKeM σ0 σ) : zpc (fX12_waves σ) (fun r => zKeM σ0 (r)) := by
  unfold fX12_waves
  exact zpc_ck (zpc_ck (zpc_bs (zKeM.wl h) (fun σ13 hσ13 => w_fX12_waves_12 _ _ _ hσ13)))
theorem w_fX12_mixed_151 {σ0 : zSt} {σ : zSt} {x2 : Int64} (h : zKeM σ0 σ) : zpc (fX12_mixed_151 σ x2) (fun r => zKeM σ0 (r)) := by
  unfold fX12_mixed_151
  exact zpc_ck (zpc_ck (zpc_ck (zpc_ck (zpc_bs (zKeM.wl h) (fun σ1 hσ1 => zpc_some hσ1)))))
theorem w_fX12_mixed_76_body {σ0 : zSt} {k76 : zSt → Int64 → Int32 → Option (zSt)} (hk76 : ∀ (y0 : zSt) (y1 : Int64) (y2 : Int32), zKeM σ0 y0 → zpc (k76 y0 y1 y2) (fun r => zKeM σ0 (r))) {σ : zSt} {x2 : Int64} {x4 : Int32} (h : zKeM σ0 σ) : zpc (fX12_mixed_76_body k76 σ x2 x4) (fun r => zKeM σ0 (r)) := by
  unfold fX12_mixed_76_body
  exact zpc_if (fun _ => zpc_ck (zpc_if (fun _ => zpc_ck (zpc_ck (zpc_ck (zpc_bs (zKeM.wi h (by decide)) (fun σ3 hσ3 => w_fX12_mixed_151 hσ3))))) (fun _ => zpc_ck (zpc_ck (zpc_bs (zKeM.wi h (by decide)) (fun σ2 hσ2 => w_fX12_mixed_151 hσ2)))))) (fun _ => zpc_ck (zpc_bs (zKeM.wi h (by decide)) (fun σ4 hσ4 => zpc_bv (fun v5 _ => hk76 _ _ _ hσ4))))
theorem w_fX12_mixed_76 {σ0 : zSt} : ∀ (n : Nat) (y0 : zSt) (y1 : Int64) (y2 : Int32), zKeM σ0 y0 → zpc (fX12_mixed_76 n y0 y1 y2) (fun r => zKeM σ0 (r)) := by
  intro n
  induction n with
  | zero => intro y0 y1 y2 h; exact zpc_none
  | succ n ih => intro y0 y1 y2 h; exact w_fX12_mixed_76_body ih h
theorem w_fX12_mixed_26 {σ0 : zSt} {σ : zSt} {s0 : Int32} (h : zKeM σ0 σ) : zpc (fX12_mixed_26 σ s0) (fun r => zKeM σ0 (r)) := by
  unfold fX12_mixed_26
  exact zpc_ck (zpc_ck (zpc_ck (zpc_ck (zpc_ck (zpc_ck (zpc_bv (fun v6 _ => w_fX12_mixed_76 _ _ _ _ h)))))))
theorem w_fX12_mixed {σ0 : zSt} {σ : zSt} (h : zKeM σ0 σ) : zpc (fX12_mixed σ) (fun r => zKeM σ0 (r)) := by
  unfold fX12_mixed
  exact zpc_ck (zpc_if (fun _ => zpc_ck (w_fX12_mixed_26 h)) (fun _ => w_fX12_mixed_26 h))
theorem w_fX12_asks_48 {σ0 : zSt} {σ : zSt} {s0 : Int32} (h : zKeM σ0 σ) : zpc (fX12_asks_48 σ s0) (fun r => zKeM σ0 (r.1)) := by
  unfold fX12_asks_48
  exact zpc_ck (zpc_some h)
theorem w_fX12_asks_47 {σ0 : zSt} {σ : zSt} (h : zKeM σ0 σ) : zpc (fX12_asks_47 σ) (fun r => zKeM σ0 (r.1)) := by
  unfold fX12_asks_47
  exact w_fX12_asks_48 h
theorem w_fX12_asks_43 {σ0 : zSt} {σ : zSt} (h : zKeM σ0 σ) : zpc (fX12_asks_43 σ) (fun r => zKeM σ0 (r.1)) := by
  unfold fX12_asks_43
  exact w_fX12_asks_48 h
theorem w_fX12_asks_22 {σ0 : zSt} {σ : zSt} (h : zKeM σ0 σ) : zpc (fX12_asks_22 σ) (fun r => zKeM σ0 (r.1)) := by
  unfold fX12_asks_22
  exact zpc_bi (w_fX12_bit h) (fun σ1 v2 hσ1 => zpc_if (fun _ => zpc_ck (zpc_if (fun _ => w_fX12_asks_43 hσ1) (fun _ => w_fX12_asks_47 hσ1))) (fun _ => w_fX12_asks_47 hσ1))
theorem w_fX12_asks {σ0 : zSt} {σ : zSt} (h : zKeM σ0 σ) : zpc (fX12_asks σ) (fun r => zKeM σ0 (r.1)) := by
  unfold fX12_asks
  exact zpc_bi (w_fX12_bit h) (fun σ3 v4 hσ3 => zpc_if (fun _ => zpc_ck (zpc_if (fun _ => w_fX12_asks_43 hσ3) (fun _ => w_fX12_asks_22 hσ3))) (fun _ => w_fX12_asks_22 hσ3))
theorem w_fX12_once_377_body {σ0 : zSt} {k377 : zSt → Int64 → Option (zSt)} (hk377 : ∀ (y0 : zSt) (y1 : Int64), zKeM σ0 y0 → zpc (k377 y0 y1) (fun r => zKeM σ0 (r))) {σ : zSt} {x5 : Int64} (h : zKeM σ0 σ) : zpc (fX12_once_377_body k377 σ x5) (fun r => zKeM σ0 (r)) := by
  unfold fX12_once_377_body
  exact zpc_ck (zpc_ck (zpc_if (fun _ => zpc_some h) (fun _ => zpc_bu (w_fX12_mixed h) (fun σ1 hσ1 => zpc_bv (fun v2 _ => hk377 _ _ hσ1)))))
theorem w_fX12_once_377 {σ0 : zSt} : ∀ (n : Nat) (y0 : zSt) (y1 : Int64), zKeM σ0 y0 → zpc (fX12_once_377 n y0 y1) (fun r => zKeM σ0 (r)) := by
  intro n
  induction n with
  | zero => intro y0 y1 h; exact zpc_none
  | succ n ih => intro y0 y1 h; exact w_fX12_once_377_body ih h
theorem w_fX12_once_341_body {σ0 : zSt} {k341 : zSt → Int64 → Int64 → Option (zSt)} (hk341 : ∀ (y0 : zSt) (y1 : Int64) (y2 : Int64), zKeM σ0 y0 → zpc (k341 y0 y1 y2) (fun r => zKeM σ0 (r))) {σ : zSt} {x3 : Int64} {x5 : Int64} (h : zKeM σ0 σ) : zpc (fX12_once_341_body k341 σ x3 x5) (fun r => zKeM σ0 (r)) := by
  unfold fX12_once_341_body
  exact zpc_ck (zpc_ck (zpc_if (fun _ => zpc_ck (zpc_bv (fun v3 _ => w_fX12_once_377 _ _ _ h))) (fun _ => zpc_bu (w_fX12_waves h) (fun σ4 hσ4 => zpc_bv (fun v5 _ => hk341 _ _ _ hσ4)))))
theorem w_fX12_once_341 {σ0 : zSt} : ∀ (n : Nat) (y0 : zSt) (y1 : Int64) (y2 : Int64), zKeM σ0 y0 → zpc (fX12_once_341 n y0 y1 y2) (fun r => zKeM σ0 (r)) := by
  intro n
  induction n with
  | zero => intro y0 y1 y2 h; exact zpc_none
  | succ n ih => intro y0 y1 y2 h; exact w_fX12_once_341_body ih h
theorem w_fX12_once_305_body {σ0 : zSt} {k305 : zSt → Int64 → Int64 → Option (zSt)} (hk305 : ∀ (y0 : zSt) (y1 : Int64) (y2 : Int64), zKeM σ0 y0 → zpc (k305 y0 y1 y2) (fun r => zKeM σ0 (r))) {σ : zSt} {x3 : Int64} {x5 : Int64} (h : zKeM σ0 σ) : zpc (fX12_once_305_body k305 σ x3 x5) (fun r => zKeM σ0 (r)) := by
  unfold fX12_once_305_body
  exact zpc_ck (zpc_ck (zpc_if (fun _ => zpc_ck (zpc_bv (fun v6 _ => w_fX12_once_341 _ _ _ _ h))) (fun _ => zpc_bu (w_fX12_sample h) (fun σ7 hσ7 => zpc_bv (fun v8 _ => hk305 _ _ _ hσ7)))))
theorem w_fX12_once_305 {σ0 : zSt} : ∀ (n : Nat) (y0 : zSt) (y1 : Int64) (y2 : Int64), zKeM σ0 y0 → zpc (fX12_once_305 n y0 y1 y2) (fun r => zKeM σ0 (r)) := by
  intro n
  induction n with
  | zero => intro y0 y1 y2 h; exact zpc_none
  | succ n ih => intro y0 y1 y2 h; exact w_fX12_once_305_body ih h
theorem w_fX12_once_298 {σ0 : zSt} {σ : zSt} {x3 : Int64} (h : zKeM σ0 σ) : zpc (fX12_once_298 σ x3) (fun r => zKeM σ0 (r)) := by
  unfold fX12_once_298
  exact zpc_ck (zpc_bv (fun v9 _ => w_fX12_once_305 _ _ _ _ h))
theorem w_fX12_once_229 {σ0 : zSt} {σ : zSt} {x2 : Int32} (h : zKeM σ0 σ) : zpc (fX12_once_229 σ x2) (fun r => zKeM σ0 (r)) := by
  unfold fX12_once_229
  exact zpc_ck (zpc_ck (zpc_bs (zKeM.wl h) (fun σ10 hσ10 => zpc_ck (zpc_bv (fun v11 _ => zpc_ck (zpc_ck (zpc_bs (zKeM.wl hσ10) (fun σ12 hσ12 => zpc_ck (zpc_ck (zpc_bs (zKeM.wi hσ12 (by decide)) (fun σ13 hσ13 => zpc_ck (zpc_if (fun _ => w_fX12_once_298 hσ13) (fun _ => zpc_ck (zpc_ck (zpc_bs (zKeM.wi hσ13 (by decide)) (fun σ14 hσ14 => zpc_bu (w_fX12_ends hσ14) (fun σ15 hσ15 => w_fX12_once_298 hσ15)))))))))))))))))
theorem w_fX12_once_204 {σ0 : zSt} {σ : zSt} (h : zKeM σ0 σ) : zpc (fX12_once_204 σ) (fun r => zKeM σ0 (r)) := by
  unfold fX12_once_204
  exact zpc_ck (zpc_if (fun _ => zpc_bu (w_fX12_grows h) (fun σ18 hσ18 => w_fX12_once_229 hσ18)) (fun _ => zpc_bi (w_fX12_instruction h) (fun σ16 v17 hσ16 => w_fX12_once_229 hσ16)))
theorem w_fX12_once_200 {σ0 : zSt} {σ : zSt} {s0 : Int32} (h : zKeM σ0 σ) : zpc (fX12_once_200 σ s0) (fun r => zKeM σ0 (r)) := by
  unfold fX12_once_200
  exact w_fX12_once_229 h
theorem w_fX12_once_179 {σ0 : zSt} {σ : zSt} {s0 : Int32} (h : zKeM σ0 σ) : zpc (fX12_once_179 σ s0) (fun r => zKeM σ0 (r)) := by
  unfold fX12_once_179
  exact zpc_bu (w_fX12_call h) (fun σ19 hσ19 => zpc_ck (zpc_if (fun _ => w_fX12_once_200 hσ19) (fun _ => w_fX12_once_200 hσ19)))
theorem w_fX12_once_102 {σ0 : zSt} {σ : zSt} {x1 : Int32} (h : zKeM σ0 σ) : zpc (fX12_once_102 σ x1) (fun r => zKeM σ0 (r)) := by
  unfold fX12_once_102
  exact zpc_ck (zpc_if (fun _ => zpc_if (fun _ => w_fX12_once_204 h) (fun _ => zpc_bi (w_fX12_asks h) (fun σ20 v21 hσ20 => zpc_if (fun _ => w_fX12_once_204 hσ20) (fun _ => zpc_ck (zpc_bs (zKeM.wi hσ20 (by decide)) (fun σ22 hσ22 => zpc_ck (zpc_bs (zKeM.wi hσ22 (by decide)) (fun σ23 hσ23 => zpc_bu (w_fX12_answers hσ23) (fun σ24 hσ24 => zpc_ck (zpc_if (fun _ => zpc_ck (zpc_bi (w_fX12_word hσ24) (fun σ25 v26 hσ25 => w_fX12_once_179 hσ25))) (fun _ => w_fX12_once_179 hσ24))))))))))) (fun _ => w_fX12_once_204 h))
theorem w_fX12_once_46 {σ0 : zSt} {σ : zSt} {s0 : Int32} (h : zKeM σ0 σ) : zpc (fX12_once_46 σ s0) (fun r => zKeM σ0 (r)) := by
  unfold fX12_once_46
  exact zpc_ck (zpc_bs (zKeM.wi h (by decide)) (fun σ27 hσ27 => zpc_ck (zpc_if (fun _ => zpc_if (fun _ => w_fX12_once_102 hσ27) (fun _ => zpc_ck (zpc_bs (zKeM.wi hσ27 (by decide)) (fun σ28 hσ28 => zpc_ck (zpc_bs (zKeM.wi hσ28 (by decide)) (fun σ29 hσ29 => zpc_bu (w_fX12_answers hσ29) (fun σ30 hσ30 => zpc_bu (w_fX12_call hσ30) (fun σ31 hσ31 => w_fX12_once_229 hσ31)))))))) (fun _ => w_fX12_once_102 hσ27))))
theorem w_fX12_once {σ0 : zSt} {σ : zSt} (h : zKeM σ0 σ) : zpc (fX12_once σ) (fun r => zKeM σ0 (r)) := by
  unfold fX12_once
  exact zpc_ck (zpc_ck (zpc_ck (zpc_bs (zKeM.wi h (by decide)) (fun σ32 hσ32 => zpc_bs (zKeM.wl hσ32) (fun σ33 hσ33 => zpc_ck (zpc_if (fun _ => w_fX12_once_46 hσ33) (fun _ => w_fX12_once_46 hσ33)))))))
theorem w_fX12_isStop_2_body {σ0 : zSt} {k2 : zSt → Int32 → Int32 → Option (zSt × Int32)} (hk2 : ∀ (y0 : zSt) (y1 : Int32) (y2 : Int32), zKeM σ0 y0 → zpc (k2 y0 y1 y2) (fun r => zKeM σ0 (r.1))) {σ : zSt} {x1 : Int32} {x2 : Int32} (h : zKeM σ0 σ) : zpc (fX12_isStop_2_body k2 σ x1 x2) (fun r => zKeM σ0 (r.1)) := by
  unfold fX12_isStop_2_body
  exact zpc_ck (zpc_if (fun _ => zpc_ck (zpc_some h)) (fun _ => zpc_ck (zpc_if (fun _ => zpc_ck (zpc_some h)) (fun _ => zpc_bv (fun v1 _ => hk2 _ _ _ h)))))
theorem w_fX12_isStop_2 {σ0 : zSt} : ∀ (n : Nat) (y0 : zSt) (y1 : Int32) (y2 : Int32), zKeM σ0 y0 → zpc (fX12_isStop_2 n y0 y1 y2) (fun r => zKeM σ0 (r.1)) := by
  intro n
  induction n with
  | zero => intro y0 y1 y2 h; exact zpc_none
  | succ n ih => intro y0 y1 y2 h; exact w_fX12_isStop_2_body ih h
theorem w_fX12_isStop {σ0 : zSt} {σ : zSt} {x1 : Int32} (h : zKeM σ0 σ) : zpc (fX12_isStop σ x1) (fun r => zKeM σ0 (r.1)) := by
  unfold fX12_isStop
  exact w_fX12_isStop_2 _ _ _ _ h
theorem w_fX12_step_62 {σ0 : zSt} {σ : zSt} {x2 : Int32} (h : zKeM σ0 σ) : zpc (fX12_step_62 σ x2) (fun r => zKeM σ0 (r.1)) := by
  unfold fX12_step_62
  exact zpc_some h
theorem w_fX12_step_52 {σ0 : zSt} {k29 : zSt → Int32 → Int32 → Option (zSt × Int32)} (hk29 : ∀ (y0 : zSt) (y1 : Int32) (y2 : Int32), zKeM σ0 y0 → zpc (k29 y0 y1 y2) (fun r => zKeM σ0 (r.1))) {σ : zSt} {x1 : Int32} {x2 : Int32} (h : zKeM σ0 σ) : zpc (fX12_step_52 k29 σ x1 x2) (fun r => zKeM σ0 (r.1)) := by
  unfold fX12_step_52
  exact zpc_bu (w_fX12_once h) (fun σ1 hσ1 => zpc_bv (fun v2 _ => hk29 _ _ _ hσ1))
theorem w_fX12_step_29_body {σ0 : zSt} {k29 : zSt → Int32 → Int32 → Option (zSt × Int32)} (hk29 : ∀ (y0 : zSt) (y1 : Int32) (y2 : Int32), zKeM σ0 y0 → zpc (k29 y0 y1 y2) (fun r => zKeM σ0 (r.1))) {σ : zSt} {x1 : Int32} {x2 : Int32} (h : zKeM σ0 σ) : zpc (fX12_step_29_body k29 σ x1 x2) (fun r => zKeM σ0 (r.1)) := by
  unfold fX12_step_29_body
  exact zpc_if (fun _ => w_fX12_step_62 h) (fun _ => zpc_if (fun _ => w_fX12_step_52 hk29 h) (fun _ => zpc_ck (zpc_bi (w_fX12_isStop h) (fun σ3 v4 hσ3 => zpc_if (fun _ => w_fX12_step_52 hk29 hσ3) (fun _ => w_fX12_step_62 hσ3)))))
theorem w_fX12_step_29 {σ0 : zSt} : ∀ (n : Nat) (y0 : zSt) (y1 : Int32) (y2 : Int32), zKeM σ0 y0 → zpc (fX12_step_29 n y0 y1 y2) (fun r => zKeM σ0 (r.1)) := by
  intro n
  induction n with
  | zero => intro y0 y1 y2 h; exact zpc_none
  | succ n ih => intro y0 y1 y2 h; exact w_fX12_step_29_body ih h
theorem w_fX12_step_18 {σ0 : zSt} {σ : zSt} {x1 : Int32} {s0 : Int32} (h : zKeM σ0 σ) : zpc (fX12_step_18 σ x1 s0) (fun r => zKeM σ0 (r.1)) := by
  unfold fX12_step_18
  exact zpc_bi (w_fX12_fails h) (fun σ5 v6 hσ5 => zpc_if (fun _ => w_fX12_step_29 _ _ _ _ hσ5) (fun _ => zpc_some hσ5))
theorem w_fX12_step {σ0 : zSt} {σ : zSt} {x1 : Int32} (h : zKeM σ0 σ) : zpc (fX12_step σ x1) (fun r => zKeM σ0 (r.1)) := by
  unfold fX12_step
  exact zpc_bi (w_fX12_within h) (fun σ7 v8 hσ7 => zpc_if (fun _ => w_fX12_step_18 hσ7) (fun _ => w_fX12_step_18 hσ7))
theorem w_fX12_picture_80 {σ0 : zSt} {σ : zSt} {x4 : Int32} (h : zKeM σ0 σ) : zpc (fX12_picture_80 σ x4) (fun r => zKeM σ0 (r.1)) := by
  unfold fX12_picture_80
  exact zpc_some h
theorem w_fX12_picture_70 {σ0 : zSt} {k40 : zSt → Int64 → Int32 → Option (zSt × Int32)} (hk40 : ∀ (y0 : zSt) (y1 : Int64) (y2 : Int32), zKeM σ0 y0 → zpc (k40 y0 y1 y2) (fun r => zKeM σ0 (r.1))) {σ : zSt} {x2 : Int64} {x4 : Int32} (h : zKeM σ0 σ) : zpc (fX12_picture_70 k40 σ x2 x4) (fun r => zKeM σ0 (r.1)) := by
  unfold fX12_picture_70
  exact zpc_bu (w_fX12_once h) (fun σ1 hσ1 => zpc_bv (fun v2 _ => hk40 _ _ _ hσ1))
theorem w_fX12_picture_40_body {σ0 : zSt} {k40 : zSt → Int64 → Int32 → Option (zSt × Int32)} (hk40 : ∀ (y0 : zSt) (y1 : Int64) (y2 : Int32), zKeM σ0 y0 → zpc (k40 y0 y1 y2) (fun r => zKeM σ0 (r.1))) {σ : zSt} {x2 : Int64} {x4 : Int32} (h : zKeM σ0 σ) : zpc (fX12_picture_40_body k40 σ x2 x4) (fun r => zKeM σ0 (r.1)) := by
  unfold fX12_picture_40_body
  exact zpc_ck (zpc_if (fun _ => w_fX12_picture_80 h) (fun _ => zpc_if (fun _ => w_fX12_picture_70 hk40 h) (fun _ => zpc_ck (zpc_bi (w_fX12_isStop h) (fun σ3 v4 hσ3 => zpc_if (fun _ => w_fX12_picture_70 hk40 hσ3) (fun _ => w_fX12_picture_80 hσ3))))))
theorem w_fX12_picture_40 {σ0 : zSt} : ∀ (n : Nat) (y0 : zSt) (y1 : Int64) (y2 : Int32), zKeM σ0 y0 → zpc (fX12_picture_40 n y0 y1 y2) (fun r => zKeM σ0 (r.1)) := by
  intro n
  induction n with
  | zero => intro y0 y1 y2 h; exact zpc_none
  | succ n ih => intro y0 y1 y2 h; exact w_fX12_picture_40_body ih h
theorem w_fX12_picture_18 {σ0 : zSt} {σ : zSt} {x1 : Int32} {s0 : Int32} (h : zKeM σ0 σ) : zpc (fX12_picture_18 σ x1 s0) (fun r => zKeM σ0 (r.1)) := by
  unfold fX12_picture_18
  exact zpc_bi (w_fX12_fails h) (fun σ5 v6 hσ5 => zpc_if (fun _ => zpc_ck (zpc_bv (fun v7 _ => w_fX12_picture_40 _ _ _ _ hσ5))) (fun _ => zpc_some hσ5))
theorem w_fX12_picture {σ0 : zSt} {σ : zSt} {x1 : Int32} (h : zKeM σ0 σ) : zpc (fX12_picture σ x1) (fun r => zKeM σ0 (r.1)) := by
  unfold fX12_picture
  exact zpc_bi (w_fX12_within h) (fun σ8 v9 hσ8 => zpc_if (fun _ => w_fX12_picture_18 hσ8) (fun _ => w_fX12_picture_18 hσ8))
theorem w_fX12_dot_103 {σ0 : zSt} {σ : zSt} {s0 : Int32} (h : zKeM σ0 σ) : zpc (fX12_dot_103 σ s0) (fun r => zKeM σ0 (r.1)) := by
  unfold fX12_dot_103
  exact zpc_ck (zpc_some h)
theorem w_fX12_dot_63 {σ0 : zSt} {σ : zSt} {x1 : Int32} {x2 : Int32} {x3 : Int32} {s0 : Int32} (h : zKeM σ0 σ) : zpc (fX12_dot_63 σ x1 x2 x3 s0) (fun r => zKeM σ0 (r.1)) := by
  unfold fX12_dot_63
  exact zpc_bi (w_fX12_fails h) (fun σ1 v2 hσ1 => zpc_if (fun _ => zpc_if (fun _ => w_fX12_dot_103 hσ1) (fun _ => w_fX12_dot_103 hσ1)) (fun _ => zpc_some hσ1))
theorem w_fX12_dot_58 {σ0 : zSt} {σ : zSt} {x1 : Int32} {x2 : Int32} {x3 : Int32} (h : zKeM σ0 σ) : zpc (fX12_dot_58 σ x1 x2 x3) (fun r => zKeM σ0 (r.1)) := by
  unfold fX12_dot_58
  exact w_fX12_dot_63 h
theorem w_fX12_dot_55 {σ0 : zSt} {σ : zSt} {x1 : Int32} {x2 : Int32} {x3 : Int32} {s0 : Int32} {s1 : Int32} (h : zKeM σ0 σ) : zpc (fX12_dot_55 σ x1 x2 x3 s0 s1) (fun r => zKeM σ0 (r.1)) := by
  unfold fX12_dot_55
  exact zpc_if (fun _ => w_fX12_dot_63 h) (fun _ => w_fX12_dot_58 h)
theorem w_fX12_dot_37 {σ0 : zSt} {σ : zSt} {x1 : Int32} {x2 : Int32} {x3 : Int32} {s0 : Int32} {s1 : Int32} (h : zKeM σ0 σ) : zpc (fX12_dot_37 σ x1 x2 x3 s0 s1) (fun r => zKeM σ0 (r.1)) := by
  unfold fX12_dot_37
  exact zpc_if (fun _ => w_fX12_dot_58 h) (fun _ => zpc_if (fun _ => zpc_bi (w_fX12_height h) (fun σ3 v4 hσ3 => w_fX12_dot_55 hσ3)) (fun _ => w_fX12_dot_55 h))
theorem w_fX12_dot_13 {σ0 : zSt} {σ : zSt} {x1 : Int32} {x2 : Int32} {s0 : Int32} (h : zKeM σ0 σ) : zpc (fX12_dot_13 σ x1 x2 s0) (fun r => zKeM σ0 (r.1)) := by
  unfold fX12_dot_13
  exact zpc_if (fun _ => w_fX12_dot_58 h) (fun _ => zpc_if (fun _ => w_fX12_dot_58 h) (fun _ => zpc_if (fun _ => w_fX12_dot_37 h) (fun _ => w_fX12_dot_37 h)))
theorem w_fX12_dot {σ0 : zSt} {σ : zSt} {x1 : Int32} {x2 : Int32} (h : zKeM σ0 σ) : zpc (fX12_dot σ x1 x2) (fun r => zKeM σ0 (r.1)) := by
  unfold fX12_dot
  exact zpc_if (fun _ => w_fX12_dot_13 h) (fun _ => w_fX12_dot_13 h)
theorem w_fX12_row_111 {σ0 : zSt} {k56 : zSt → Int32 → Int32 → Int32 → Int32 → Option (zSt × Int32)} (hk56 : ∀ (y0 : zSt) (y1 : Int32) (y2 : Int32) (y3 : Int32) (y4 : Int32), zKeM σ0 y0 → zpc (k56 y0 y1 y2 y3 y4) (fun r => zKeM σ0 (r.1))) {σ : zSt} {x1 : Int32} {x2 : Int32} {x4 : Int32} {s0 : Int32} {s2 : Int32} (h : zKeM σ0 σ) : zpc (fX12_row_111 k56 σ x1 x2 x4 s0 s2) (fun r => zKeM σ0 (r.1)) := by
  unfold fX12_row_111
  exact zpc_ck (zpc_bv (fun v1 _ => zpc_bv (fun v2 _ => hk56 _ _ _ _ _ h)))
theorem w_fX12_row_71 {σ0 : zSt} {k56 : zSt → Int32 → Int32 → Int32 → Int32 → Option (zSt × Int32)} (hk56 : ∀ (y0 : zSt) (y1 : Int32) (y2 : Int32) (y3 : Int32) (y4 : Int32), zKeM σ0 y0 → zpc (k56 y0 y1 y2 y3 y4) (fun r => zKeM σ0 (r.1))) {σ : zSt} {x1 : Int32} {x2 : Int32} {x3 : Int32} {x4 : Int32} {s0 : Int32} {s1 : Int32} (h : zKeM σ0 σ) : zpc (fX12_row_71 k56 σ x1 x2 x3 x4 s0 s1) (fun r => zKeM σ0 (r.1)) := by
  unfold fX12_row_71
  exact zpc_if (fun _ => zpc_some h) (fun _ => zpc_if (fun _ => w_fX12_row_111 hk56 h) (fun _ => w_fX12_row_111 hk56 h))
theorem w_fX12_row_56_body {σ0 : zSt} {k56 : zSt → Int32 → Int32 → Int32 → Int32 → Option (zSt × Int32)} (hk56 : ∀ (y0 : zSt) (y1 : Int32) (y2 : Int32) (y3 : Int32) (y4 : Int32), zKeM σ0 y0 → zpc (k56 y0 y1 y2 y3 y4) (fun r => zKeM σ0 (r.1))) {σ : zSt} {x1 : Int32} {x2 : Int32} {x3 : Int32} {x4 : Int32} (h : zKeM σ0 σ) : zpc (fX12_row_56_body k56 σ x1 x2 x3 x4) (fun r => zKeM σ0 (r.1)) := by
  unfold fX12_row_56_body
  exact zpc_if (fun _ => w_fX12_row_71 hk56 h) (fun _ => w_fX12_row_71 hk56 h)
theorem w_fX12_row_56 {σ0 : zSt} : ∀ (n : Nat) (y0 : zSt) (y1 : Int32) (y2 : Int32) (y3 : Int32) (y4 : Int32), zKeM σ0 y0 → zpc (fX12_row_56 n y0 y1 y2 y3 y4) (fun r => zKeM σ0 (r.1)) := by
  intro n
  induction n with
  | zero => intro y0 y1 y2 y3 y4 h; exact zpc_none
  | succ n ih => intro y0 y1 y2 y3 y4 h; exact w_fX12_row_56_body ih h
theorem w_fX12_row_42 {σ0 : zSt} {σ : zSt} {x1 : Int32} {x2 : Int32} {s0 : Int32} (h : zKeM σ0 σ) : zpc (fX12_row_42 σ x1 x2 s0) (fun r => zKeM σ0 (r.1)) := by
  unfold fX12_row_42
  exact zpc_bi (w_fX12_fails h) (fun σ3 v4 hσ3 => zpc_if (fun _ => w_fX12_row_56 _ _ _ _ _ _ hσ3) (fun _ => zpc_some hσ3))
theorem w_fX12_row_37 {σ0 : zSt} {σ : zSt} {x1 : Int32} {x2 : Int32} (h : zKeM σ0 σ) : zpc (fX12_row_37 σ x1 x2) (fun r => zKeM σ0 (r.1)) := by
  unfold fX12_row_37
  exact w_fX12_row_42 h
theorem w_fX12_row_34 {σ0 : zSt} {σ : zSt} {x1 : Int32} {x2 : Int32} {s0 : Int32} {s1 : Int32} (h : zKeM σ0 σ) : zpc (fX12_row_34 σ x1 x2 s0 s1) (fun r => zKeM σ0 (r.1)) := by
  unfold fX12_row_34
  exact zpc_if (fun _ => w_fX12_row_42 h) (fun _ => w_fX12_row_37 h)
theorem w_fX12_row_13 {σ0 : zSt} {σ : zSt} {x1 : Int32} {s0 : Int32} (h : zKeM σ0 σ) : zpc (fX12_row_13 σ x1 s0) (fun r => zKeM σ0 (r.1)) := by
  unfold fX12_row_13
  exact zpc_if (fun _ => w_fX12_row_37 h) (fun _ => zpc_if (fun _ => zpc_bi (w_fX12_height h) (fun σ5 v6 hσ5 => w_fX12_row_34 hσ5)) (fun _ => w_fX12_row_34 h))
theorem w_fX12_row {σ0 : zSt} {σ : zSt} {x1 : Int32} (h : zKeM σ0 σ) : zpc (fX12_row σ x1) (fun r => zKeM σ0 (r.1)) := by
  unfold fX12_row
  exact zpc_if (fun _ => w_fX12_row_13 h) (fun _ => w_fX12_row_13 h)
theorem w_fX12_hear_16 {σ0 : zSt} {σ : zSt} {s0 : Int32} (h : zKeM σ0 σ) : zpc (fX12_hear_16 σ s0) (fun r => zKeM σ0 (r.1)) := by
  unfold fX12_hear_16
  exact zpc_bi (w_fX12_fails h) (fun σ1 v2 hσ1 => zpc_if (fun _ => zpc_ck (zpc_ck (zpc_bv (fun v3 _ => zpc_ck (zpc_ck (zpc_ck (zpc_bs (zKeM.wi hσ1 (by decide)) (fun σ4 hσ4 => zpc_ck (zpc_ck (zpc_bs (zKeM.wi hσ4 (by decide)) (fun σ5 hσ5 => zpc_some hσ5))))))))))) (fun _ => zpc_some hσ1))
theorem w_fX12_hear {σ0 : zSt} {σ : zSt} (h : zKeM σ0 σ) : zpc (fX12_hear σ) (fun r => zKeM σ0 (r.1)) := by
  unfold fX12_hear
  exact zpc_ck (zpc_if (fun _ => w_fX12_hear_16 h) (fun _ => w_fX12_hear_16 h))
theorem w_fX12_sound_52 {σ0 : zSt} {σ : zSt} {s0 : Int32} (h : zKeM σ0 σ) : zpc (fX12_sound_52 σ s0) (fun r => zKeM σ0 (r.1)) := by
  unfold fX12_sound_52
  exact zpc_some h
theorem w_fX12_sound_18 {σ0 : zSt} {σ : zSt} {x1 : Int32} {s0 : Int32} (h : zKeM σ0 σ) : zpc (fX12_sound_18 σ x1 s0) (fun r => zKeM σ0 (r.1)) := by
  unfold fX12_sound_18
  exact zpc_bi (w_fX12_fails h) (fun σ1 v2 hσ1 => zpc_if (fun _ => zpc_if (fun _ => zpc_ck (w_fX12_sound_52 hσ1)) (fun _ => zpc_ck (w_fX12_sound_52 hσ1))) (fun _ => zpc_some hσ1))
theorem w_fX12_sound {σ0 : zSt} {σ : zSt} {x1 : Int32} (h : zKeM σ0 σ) : zpc (fX12_sound σ x1) (fun r => zKeM σ0 (r.1)) := by
  unfold fX12_sound
  exact zpc_bi (w_fX12_within h) (fun σ3 v4 hσ3 => zpc_if (fun _ => w_fX12_sound_18 hσ3) (fun _ => w_fX12_sound_18 hσ3))
theorem w_fX12_reset {σ0 : zSt} {σ : zSt} (h : zKeM σ0 σ) : zpc (fX12_reset σ) (fun r => zKeM σ0 (r)) := by
  unfold fX12_reset
  exact zpc_bs (zKeM.w0 h (by decide)) (fun σ1 hσ1 => zpc_bu (w_fX12_anew hσ1) (fun σ2 hσ2 => zpc_some hσ2))
theorem w_fX12_pause {σ0 : zSt} {σ : zSt} (h : zKeM σ0 σ) : zpc (fX12_pause σ) (fun r => zKeM σ0 (r.1)) := by
  unfold fX12_pause
  exact zpc_bs (zKeM.w0 h (by decide)) (fun σ1 hσ1 => zpc_if (fun _ => zpc_ck (zpc_some hσ1)) (fun _ => zpc_ck (zpc_bs (zKeM.wi hσ1 (by decide)) (fun σ2 hσ2 => zpc_ck (zpc_some hσ2)))))
theorem w_fX12_press_28 {σ0 : zSt} {σ : zSt} {x1 : Int32} {x2 : Int32} {s0 : Int32} (h : zKeM σ0 σ) : zpc (fX12_press_28 σ x1 x2 s0) (fun r => zKeM σ0 (r)) := by
  unfold fX12_press_28
  exact zpc_bi (w_fX12_fails h) (fun σ1 v2 hσ1 => zpc_if (fun _ => zpc_ck (zpc_bs (zKeM.wi hσ1 (by decide)) (fun σ3 hσ3 => zpc_some hσ3))) (fun _ => zpc_some hσ1))
theorem w_fX12_press_23 {σ0 : zSt} {σ : zSt} {x1 : Int32} {x2 : Int32} (h : zKeM σ0 σ) : zpc (fX12_press_23 σ x1 x2) (fun r => zKeM σ0 (r)) := by
  unfold fX12_press_23
  exact w_fX12_press_28 h
theorem w_fX12_press {σ0 : zSt} {σ : zSt} {x1 : Int32} {x2 : Int32} (h : zKeM σ0 σ) : zpc (fX12_press σ x1 x2) (fun r => zKeM σ0 (r)) := by
  unfold fX12_press
  exact zpc_bi (w_fX12_within h) (fun σ4 v5 hσ4 => zpc_if (fun _ => w_fX12_press_23 hσ4) (fun _ => zpc_bi (w_fX12_within hσ4) (fun σ6 v7 hσ6 => zpc_if (fun _ => w_fX12_press_23 hσ6) (fun _ => w_fX12_press_28 hσ6))))
theorem w_fX12_start_20 {σ0 : zSt} {σ : zSt} {s0 : Int32} {s1 : Int32} (h : zKeM σ0 σ) : zpc (fX12_start_20 σ s0 s1) (fun r => zKeM σ0 (r)) := by
  unfold fX12_start_20
  exact zpc_ck (zpc_bs (zKeM.wi h (by decide)) (fun σ1 hσ1 => zpc_some hσ1))
theorem w_fX12_start {σ0 : zSt} {σ : zSt} {x1 : Int32} (h : zKeM σ0 σ) : zpc (fX12_start σ x1) (fun r => zKeM σ0 (r)) := by
  unfold fX12_start
  exact zpc_bs (zKeM.w0 h (by decide)) (fun σ2 hσ2 => zpc_if (fun _ => w_fX12_start_20 hσ2) (fun _ => w_fX12_start_20 hσ2))
theorem w_fX12_line_72 {σ0 : zSt} {σ : zSt} (h : zKeM σ0 σ) : zpc (fX12_line_72 σ) (fun r => zKeM σ0 (r)) := by
  unfold fX12_line_72
  exact zpc_some h
theorem w_fX12_line_47 {σ0 : zSt} {σ : zSt} {x1 : Int32} {x3 : Int32} {s0 : Int32} {s1 : Int32} (h : zKeM σ0 σ) : zpc (fX12_line_47 σ x1 x3 s0 s1) (fun r => zKeM σ0 (r)) := by
  unfold fX12_line_47
  exact zpc_ck (zpc_bs (zKeM.wi h (by decide)) (fun σ1 hσ1 => zpc_if (fun _ => zpc_bi (w_fX12_lineAt hσ1) (fun σ2 v3 hσ2 => zpc_if (fun _ => zpc_bi (w_fX12_hCount hσ2) (fun σ4 v5 hσ4 => zpc_ck (zpc_bs (zKeM.wi hσ4 (by decide)) (fun σ6 hσ6 => w_fX12_line_72 hσ6)))) (fun _ => w_fX12_line_72 hσ2))) (fun _ => w_fX12_line_72 hσ1)))
theorem w_fX12_line_16 {σ0 : zSt} {σ : zSt} {x1 : Int32} {x2 : Int32} {s0 : Int32} (h : zKeM σ0 σ) : zpc (fX12_line_16 σ x1 x2 s0) (fun r => zKeM σ0 (r)) := by
  unfold fX12_line_16
  exact zpc_bi (w_fX12_fails h) (fun σ7 v8 hσ7 => zpc_if (fun _ => zpc_bi (w_fX12_lineAt hσ7) (fun σ9 v10 hσ9 => zpc_if (fun _ => w_fX12_line_47 hσ9) (fun _ => w_fX12_line_47 hσ9))) (fun _ => zpc_some hσ7))
theorem w_fX12_line {σ0 : zSt} {σ : zSt} {x1 : Int32} {x2 : Int32} (h : zKeM σ0 σ) : zpc (fX12_line σ x1 x2) (fun r => zKeM σ0 (r)) := by
  unfold fX12_line
  exact zpc_bi (w_fX12_within h) (fun σ11 v12 hσ11 => zpc_if (fun _ => w_fX12_line_16 hσ11) (fun _ => w_fX12_line_16 hσ11))
theorem w_fX12_stop_64 {σ0 : zSt} {σ : zSt} (h : zKeM σ0 σ) : zpc (fX12_stop_64 σ) (fun r => zKeM σ0 (r.1)) := by
  unfold fX12_stop_64
  exact zpc_some h
theorem w_fX12_stop_168 {σ0 : zSt} {σ : zSt} (h : zKeM σ0 σ) : zpc (fX12_stop_168 σ) (fun r => zKeM σ0 (r.1)) := by
  unfold fX12_stop_168
  exact zpc_ck (zpc_some h)
theorem w_fX12_stop_112_body {σ0 : zSt} {k112 : zSt → Int32 → Int32 → Option (zSt × Int32)} (hk112 : ∀ (y0 : zSt) (y1 : Int32) (y2 : Int32), zKeM σ0 y0 → zpc (k112 y0 y1 y2) (fun r => zKeM σ0 (r.1))) {σ : zSt} {x1 : Int32} {x4 : Int32} (h : zKeM σ0 σ) : zpc (fX12_stop_112_body k112 σ x1 x4) (fun r => zKeM σ0 (r.1)) := by
  unfold fX12_stop_112_body
  exact zpc_ck (zpc_if (fun _ => zpc_ck (zpc_ck (zpc_ck (zpc_bs (zKeM.wi h (by decide)) (fun σ1 hσ1 => zpc_ck (zpc_ck (zpc_bs (zKeM.wi hσ1 (by decide)) (fun σ2 hσ2 => w_fX12_stop_168 hσ2)))))))) (fun _ => zpc_bv (fun v3 _ => hk112 _ _ _ h)))
theorem w_fX12_stop_112 {σ0 : zSt} : ∀ (n : Nat) (y0 : zSt) (y1 : Int32) (y2 : Int32), zKeM σ0 y0 → zpc (fX12_stop_112 n y0 y1 y2) (fun r => zKeM σ0 (r.1)) := by
  intro n
  induction n with
  | zero => intro y0 y1 y2 h; exact zpc_none
  | succ n ih => intro y0 y1 y2 h; exact w_fX12_stop_112_body ih h
theorem w_fX12_stop_101 {σ0 : zSt} {σ : zSt} {x1 : Int32} {x2 : Int32} {x3 : Int32} (h : zKeM σ0 σ) : zpc (fX12_stop_101 σ x1 x2 x3) (fun r => zKeM σ0 (r.1)) := by
  unfold fX12_stop_101
  exact zpc_if (fun _ => zpc_if (fun _ => w_fX12_stop_168 h) (fun _ => w_fX12_stop_112 _ _ _ _ h)) (fun _ => w_fX12_stop_168 h)
theorem w_fX12_stop_57 {σ0 : zSt} {σ : zSt} {x1 : Int32} {x2 : Int32} {x3 : Int32} {s0 : Int32} (h : zKeM σ0 σ) : zpc (fX12_stop_57 σ x1 x2 x3 s0) (fun r => zKeM σ0 (r.1)) := by
  unfold fX12_stop_57
  exact zpc_bi (w_fX12_fails h) (fun σ4 v5 hσ4 => zpc_if (fun _ => zpc_if (fun _ => w_fX12_stop_101 hσ4) (fun _ => zpc_if (fun _ => zpc_ck (zpc_ck (zpc_bs (zKeM.wi hσ4 (by decide)) (fun σ6 hσ6 => zpc_ck (zpc_ck (zpc_bs (zKeM.wi hσ6 (by decide)) (fun σ7 hσ7 => w_fX12_stop_101 hσ7))))))) (fun _ => w_fX12_stop_101 hσ4))) (fun _ => w_fX12_stop_64 hσ4))
theorem w_fX12_stop_56 {σ0 : zSt} {σ : zSt} {x1 : Int32} {x2 : Int32} {x3 : Int32} (h : zKeM σ0 σ) : zpc (fX12_stop_56 σ x1 x2 x3) (fun r => zKeM σ0 (r.1)) := by
  unfold fX12_stop_56
  exact w_fX12_stop_57 h
theorem w_fX12_stop_24 {σ0 : zSt} {σ : zSt} {x1 : Int32} {x2 : Int32} {x3 : Int32} {s0 : Int32} (h : zKeM σ0 σ) : zpc (fX12_stop_24 σ x1 x2 x3 s0) (fun r => zKeM σ0 (r.1)) := by
  unfold fX12_stop_24
  exact zpc_bi (w_fX12_fails h) (fun σ8 v9 hσ8 => zpc_if (fun _ => zpc_if (fun _ => w_fX12_stop_56 hσ8) (fun _ => zpc_if (fun _ => zpc_ck (zpc_if (fun _ => w_fX12_stop_57 hσ8) (fun _ => w_fX12_stop_56 hσ8))) (fun _ => w_fX12_stop_56 hσ8))) (fun _ => w_fX12_stop_64 hσ8))
theorem w_fX12_stop {σ0 : zSt} {σ : zSt} {x1 : Int32} {x2 : Int32} (h : zKeM σ0 σ) : zpc (fX12_stop σ x1 x2) (fun r => zKeM σ0 (r.1)) := by
  unfold fX12_stop
  exact zpc_bi (w_fX12_isStop h) (fun σ10 v11 hσ10 => zpc_bi (w_fX12_within hσ10) (fun σ12 v13 hσ12 => zpc_if (fun _ => w_fX12_stop_24 hσ12) (fun _ => w_fX12_stop_24 hσ12)))
theorem w_fX12_save_196_body {σ0 : zSt} {k196 : zSt → Int32 → Option (zSt)} (hk196 : ∀ (y0 : zSt) (y1 : Int32), zKeM σ0 y0 → zpc (k196 y0 y1) (fun r => zKeM σ0 (r))) {σ : zSt} {x1 : Int32} (h : zKeM σ0 σ) : zpc (fX12_save_196_body k196 σ x1) (fun r => zKeM σ0 (r)) := by
  unfold fX12_save_196_body
  exact zpc_if (fun _ => zpc_some h) (fun _ => zpc_ck (zpc_ck (zpc_bs (zKeM.wl h) (fun σ1 hσ1 => zpc_ck (zpc_ck (zpc_bs (zKeM.wl hσ1) (fun σ2 hσ2 => zpc_bv (fun v3 _ => hk196 _ _ hσ2))))))))
theorem w_fX12_save_196 {σ0 : zSt} : ∀ (n : Nat) (y0 : zSt) (y1 : Int32), zKeM σ0 y0 → zpc (fX12_save_196 n y0 y1) (fun r => zKeM σ0 (r)) := by
  intro n
  induction n with
  | zero => intro y0 y1 h; exact zpc_none
  | succ n ih => intro y0 y1 h; exact w_fX12_save_196_body ih h
theorem w_fX12_save_170_body {σ0 : zSt} {k170 : zSt → Int32 → Option (zSt)} (hk170 : ∀ (y0 : zSt) (y1 : Int32), zKeM σ0 y0 → zpc (k170 y0 y1) (fun r => zKeM σ0 (r))) {σ : zSt} {x1 : Int32} (h : zKeM σ0 σ) : zpc (fX12_save_170_body k170 σ x1) (fun r => zKeM σ0 (r)) := by
  unfold fX12_save_170_body
  exact zpc_if (fun _ => w_fX12_save_196 _ _ _ h) (fun _ => zpc_ck (zpc_ck (zpc_bs (zKeM.wi h (by decide)) (fun σ4 hσ4 => zpc_bv (fun v5 _ => hk170 _ _ hσ4)))))
theorem w_fX12_save_170 {σ0 : zSt} : ∀ (n : Nat) (y0 : zSt) (y1 : Int32), zKeM σ0 y0 → zpc (fX12_save_170 n y0 y1) (fun r => zKeM σ0 (r)) := by
  intro n
  induction n with
  | zero => intro y0 y1 h; exact zpc_none
  | succ n ih => intro y0 y1 h; exact w_fX12_save_170_body ih h
theorem w_fX12_save_144_body {σ0 : zSt} {k144 : zSt → Int32 → Option (zSt)} (hk144 : ∀ (y0 : zSt) (y1 : Int32), zKeM σ0 y0 → zpc (k144 y0 y1) (fun r => zKeM σ0 (r))) {σ : zSt} {x1 : Int32} (h : zKeM σ0 σ) : zpc (fX12_save_144_body k144 σ x1) (fun r => zKeM σ0 (r)) := by
  unfold fX12_save_144_body
  exact zpc_if (fun _ => w_fX12_save_170 _ _ _ h) (fun _ => zpc_ck (zpc_ck (zpc_bs (zKeM.wi h (by decide)) (fun σ6 hσ6 => zpc_bv (fun v7 _ => hk144 _ _ hσ6)))))
theorem w_fX12_save_144 {σ0 : zSt} : ∀ (n : Nat) (y0 : zSt) (y1 : Int32), zKeM σ0 y0 → zpc (fX12_save_144 n y0 y1) (fun r => zKeM σ0 (r)) := by
  intro n
  induction n with
  | zero => intro y0 y1 h; exact zpc_none
  | succ n ih => intro y0 y1 h; exact w_fX12_save_144_body ih h
theorem w_fX12_save_117_body {σ0 : zSt} {k117 : zSt → Int32 → Option (zSt)} (hk117 : ∀ (y0 : zSt) (y1 : Int32), zKeM σ0 y0 → zpc (k117 y0 y1) (fun r => zKeM σ0 (r))) {σ : zSt} {x1 : Int32} (h : zKeM σ0 σ) : zpc (fX12_save_117_body k117 σ x1) (fun r => zKeM σ0 (r)) := by
  unfold fX12_save_117_body
  exact zpc_if (fun _ => w_fX12_save_144 _ _ _ h) (fun _ => zpc_ck (zpc_ck (zpc_bs (zKeM.wi h (by decide)) (fun σ8 hσ8 => zpc_bv (fun v9 _ => hk117 _ _ hσ8)))))
theorem w_fX12_save_117 {σ0 : zSt} : ∀ (n : Nat) (y0 : zSt) (y1 : Int32), zKeM σ0 y0 → zpc (fX12_save_117 n y0 y1) (fun r => zKeM σ0 (r)) := by
  intro n
  induction n with
  | zero => intro y0 y1 h; exact zpc_none
  | succ n ih => intro y0 y1 h; exact w_fX12_save_117_body ih h
theorem w_fX12_save_91_body {σ0 : zSt} {k91 : zSt → Int32 → Option (zSt)} (hk91 : ∀ (y0 : zSt) (y1 : Int32), zKeM σ0 y0 → zpc (k91 y0 y1) (fun r => zKeM σ0 (r))) {σ : zSt} {x1 : Int32} (h : zKeM σ0 σ) : zpc (fX12_save_91_body k91 σ x1) (fun r => zKeM σ0 (r)) := by
  unfold fX12_save_91_body
  exact zpc_if (fun _ => w_fX12_save_117 _ _ _ h) (fun _ => zpc_ck (zpc_ck (zpc_bs (zKeM.wi h (by decide)) (fun σ10 hσ10 => zpc_bv (fun v11 _ => hk91 _ _ hσ10)))))
theorem w_fX12_save_91 {σ0 : zSt} : ∀ (n : Nat) (y0 : zSt) (y1 : Int32), zKeM σ0 y0 → zpc (fX12_save_91 n y0 y1) (fun r => zKeM σ0 (r)) := by
  intro n
  induction n with
  | zero => intro y0 y1 h; exact zpc_none
  | succ n ih => intro y0 y1 h; exact w_fX12_save_91_body ih h
theorem w_fX12_save_64_body {σ0 : zSt} {k64 : zSt → Int32 → Option (zSt)} (hk64 : ∀ (y0 : zSt) (y1 : Int32), zKeM σ0 y0 → zpc (k64 y0 y1) (fun r => zKeM σ0 (r))) {σ : zSt} {x1 : Int32} (h : zKeM σ0 σ) : zpc (fX12_save_64_body k64 σ x1) (fun r => zKeM σ0 (r)) := by
  unfold fX12_save_64_body
  exact zpc_if (fun _ => w_fX12_save_91 _ _ _ h) (fun _ => zpc_ck (zpc_ck (zpc_bs (zKeM.wi h (by decide)) (fun σ12 hσ12 => zpc_bv (fun v13 _ => hk64 _ _ hσ12)))))
theorem w_fX12_save_64 {σ0 : zSt} : ∀ (n : Nat) (y0 : zSt) (y1 : Int32), zKeM σ0 y0 → zpc (fX12_save_64 n y0 y1) (fun r => zKeM σ0 (r)) := by
  intro n
  induction n with
  | zero => intro y0 y1 h; exact zpc_none
  | succ n ih => intro y0 y1 h; exact w_fX12_save_64_body ih h
theorem w_fX12_save_39_body {σ0 : zSt} {k39 : zSt → Int32 → Option (zSt)} (hk39 : ∀ (y0 : zSt) (y1 : Int32), zKeM σ0 y0 → zpc (k39 y0 y1) (fun r => zKeM σ0 (r))) {σ : zSt} {x1 : Int32} (h : zKeM σ0 σ) : zpc (fX12_save_39_body k39 σ x1) (fun r => zKeM σ0 (r)) := by
  unfold fX12_save_39_body
  exact zpc_if (fun _ => w_fX12_save_64 _ _ _ h) (fun _ => zpc_ck (zpc_ck (zpc_bs (zKeM.wl h) (fun σ14 hσ14 => zpc_bv (fun v15 _ => hk39 _ _ hσ14)))))
theorem w_fX12_save_39 {σ0 : zSt} : ∀ (n : Nat) (y0 : zSt) (y1 : Int32), zKeM σ0 y0 → zpc (fX12_save_39 n y0 y1) (fun r => zKeM σ0 (r)) := by
  intro n
  induction n with
  | zero => intro y0 y1 h; exact zpc_none
  | succ n ih => intro y0 y1 h; exact w_fX12_save_39_body ih h
theorem w_fX12_save_12_body {σ0 : zSt} {k12 : zSt → Int32 → Option (zSt)} (hk12 : ∀ (y0 : zSt) (y1 : Int32), zKeM σ0 y0 → zpc (k12 y0 y1) (fun r => zKeM σ0 (r))) {σ : zSt} {x1 : Int32} (h : zKeM σ0 σ) : zpc (fX12_save_12_body k12 σ x1) (fun r => zKeM σ0 (r)) := by
  unfold fX12_save_12_body
  exact zpc_if (fun _ => w_fX12_save_39 _ _ _ h) (fun _ => zpc_ck (zpc_ck (zpc_bs (zKeM.wi h (by decide)) (fun σ16 hσ16 => zpc_bv (fun v17 _ => hk12 _ _ hσ16)))))
theorem w_fX12_save_12 {σ0 : zSt} : ∀ (n : Nat) (y0 : zSt) (y1 : Int32), zKeM σ0 y0 → zpc (fX12_save_12 n y0 y1) (fun r => zKeM σ0 (r)) := by
  intro n
  induction n with
  | zero => intro y0 y1 h; exact zpc_none
  | succ n ih => intro y0 y1 h; exact w_fX12_save_12_body ih h
theorem w_fX12_save {σ0 : zSt} {σ : zSt} (h : zKeM σ0 σ) : zpc (fX12_save σ) (fun r => zKeM σ0 (r)) := by
  unfold fX12_save
  exact zpc_bs (zKeM.w0 h (by decide)) (fun σ18 hσ18 => zpc_ck (zpc_bs (zKeM.w0 hσ18 (by decide)) (fun σ19 hσ19 => w_fX12_save_12 _ _ _ hσ19)))
theorem w_fX12_restore_207_body {σ0 : zSt} {k207 : zSt → Int32 → Option (zSt)} (hk207 : ∀ (y0 : zSt) (y1 : Int32), zKeM σ0 y0 → zpc (k207 y0 y1) (fun r => zKeM σ0 (r))) {σ : zSt} {x1 : Int32} (h : zKeM σ0 σ) : zpc (fX12_restore_207_body k207 σ x1) (fun r => zKeM σ0 (r)) := by
  unfold fX12_restore_207_body
  exact zpc_if (fun _ => zpc_some h) (fun _ => zpc_ck (zpc_ck (zpc_bs (zKeM.wl h) (fun σ1 hσ1 => zpc_ck (zpc_ck (zpc_bs (zKeM.wl hσ1) (fun σ2 hσ2 => zpc_bv (fun v3 _ => hk207 _ _ hσ2))))))))
theorem w_fX12_restore_207 {σ0 : zSt} : ∀ (n : Nat) (y0 : zSt) (y1 : Int32), zKeM σ0 y0 → zpc (fX12_restore_207 n y0 y1) (fun r => zKeM σ0 (r)) := by
  intro n
  induction n with
  | zero => intro y0 y1 h; exact zpc_none
  | succ n ih => intro y0 y1 h; exact w_fX12_restore_207_body ih h
theorem w_fX12_restore_181_body {σ0 : zSt} {k181 : zSt → Int32 → Option (zSt)} (hk181 : ∀ (y0 : zSt) (y1 : Int32), zKeM σ0 y0 → zpc (k181 y0 y1) (fun r => zKeM σ0 (r))) {σ : zSt} {x1 : Int32} (h : zKeM σ0 σ) : zpc (fX12_restore_181_body k181 σ x1) (fun r => zKeM σ0 (r)) := by
  unfold fX12_restore_181_body
  exact zpc_if (fun _ => w_fX12_restore_207 _ _ _ h) (fun _ => zpc_ck (zpc_ck (zpc_bs (zKeM.wi h (by decide)) (fun σ4 hσ4 => zpc_bv (fun v5 _ => hk181 _ _ hσ4)))))
theorem w_fX12_restore_181 {σ0 : zSt} : ∀ (n : Nat) (y0 : zSt) (y1 : Int32), zKeM σ0 y0 → zpc (fX12_restore_181 n y0 y1) (fun r => zKeM σ0 (r)) := by
  intro n
  induction n with
  | zero => intro y0 y1 h; exact zpc_none
  | succ n ih => intro y0 y1 h; exact w_fX12_restore_181_body ih h
theorem w_fX12_restore_155_body {σ0 : zSt} {k155 : zSt → Int32 → Option (zSt)} (hk155 : ∀ (y0 : zSt) (y1 : Int32), zKeM σ0 y0 → zpc (k155 y0 y1) (fun r => zKeM σ0 (r))) {σ : zSt} {x1 : Int32} (h : zKeM σ0 σ) : zpc (fX12_restore_155_body k155 σ x1) (fun r => zKeM σ0 (r)) := by
  unfold fX12_restore_155_body
  exact zpc_if (fun _ => w_fX12_restore_181 _ _ _ h) (fun _ => zpc_ck (zpc_ck (zpc_bs (zKeM.wi h (by decide)) (fun σ6 hσ6 => zpc_bv (fun v7 _ => hk155 _ _ hσ6)))))
theorem w_fX12_restore_155 {σ0 : zSt} : ∀ (n : Nat) (y0 : zSt) (y1 : Int32), zKeM σ0 y0 → zpc (fX12_restore_155 n y0 y1) (fun r => zKeM σ0 (r)) := by
  intro n
  induction n with
  | zero => intro y0 y1 h; exact zpc_none
  | succ n ih => intro y0 y1 h; exact w_fX12_restore_155_body ih h
theorem w_fX12_restore_128_body {σ0 : zSt} {k128 : zSt → Int32 → Option (zSt)} (hk128 : ∀ (y0 : zSt) (y1 : Int32), zKeM σ0 y0 → zpc (k128 y0 y1) (fun r => zKeM σ0 (r))) {σ : zSt} {x1 : Int32} (h : zKeM σ0 σ) : zpc (fX12_restore_128_body k128 σ x1) (fun r => zKeM σ0 (r)) := by
  unfold fX12_restore_128_body
  exact zpc_if (fun _ => w_fX12_restore_155 _ _ _ h) (fun _ => zpc_ck (zpc_ck (zpc_bs (zKeM.wi h (by decide)) (fun σ8 hσ8 => zpc_bv (fun v9 _ => hk128 _ _ hσ8)))))
theorem w_fX12_restore_128 {σ0 : zSt} : ∀ (n : Nat) (y0 : zSt) (y1 : Int32), zKeM σ0 y0 → zpc (fX12_restore_128 n y0 y1) (fun r => zKeM σ0 (r)) := by
  intro n
  induction n with
  | zero => intro y0 y1 h; exact zpc_none
  | succ n ih => intro y0 y1 h; exact w_fX12_restore_128_body ih h
theorem w_fX12_restore_102_body {σ0 : zSt} {k102 : zSt → Int32 → Option (zSt)} (hk102 : ∀ (y0 : zSt) (y1 : Int32), zKeM σ0 y0 → zpc (k102 y0 y1) (fun r => zKeM σ0 (r))) {σ : zSt} {x1 : Int32} (h : zKeM σ0 σ) : zpc (fX12_restore_102_body k102 σ x1) (fun r => zKeM σ0 (r)) := by
  unfold fX12_restore_102_body
  exact zpc_if (fun _ => w_fX12_restore_128 _ _ _ h) (fun _ => zpc_ck (zpc_ck (zpc_bs (zKeM.wi h (by decide)) (fun σ10 hσ10 => zpc_bv (fun v11 _ => hk102 _ _ hσ10)))))
theorem w_fX12_restore_102 {σ0 : zSt} : ∀ (n : Nat) (y0 : zSt) (y1 : Int32), zKeM σ0 y0 → zpc (fX12_restore_102 n y0 y1) (fun r => zKeM σ0 (r)) := by
  intro n
  induction n with
  | zero => intro y0 y1 h; exact zpc_none
  | succ n ih => intro y0 y1 h; exact w_fX12_restore_102_body ih h
theorem w_fX12_restore_75_body {σ0 : zSt} {k75 : zSt → Int32 → Option (zSt)} (hk75 : ∀ (y0 : zSt) (y1 : Int32), zKeM σ0 y0 → zpc (k75 y0 y1) (fun r => zKeM σ0 (r))) {σ : zSt} {x1 : Int32} (h : zKeM σ0 σ) : zpc (fX12_restore_75_body k75 σ x1) (fun r => zKeM σ0 (r)) := by
  unfold fX12_restore_75_body
  exact zpc_if (fun _ => w_fX12_restore_102 _ _ _ h) (fun _ => zpc_ck (zpc_ck (zpc_bs (zKeM.wi h (by decide)) (fun σ12 hσ12 => zpc_bv (fun v13 _ => hk75 _ _ hσ12)))))
theorem w_fX12_restore_75 {σ0 : zSt} : ∀ (n : Nat) (y0 : zSt) (y1 : Int32), zKeM σ0 y0 → zpc (fX12_restore_75 n y0 y1) (fun r => zKeM σ0 (r)) := by
  intro n
  induction n with
  | zero => intro y0 y1 h; exact zpc_none
  | succ n ih => intro y0 y1 h; exact w_fX12_restore_75_body ih h
theorem w_fX12_restore_50_body {σ0 : zSt} {k50 : zSt → Int32 → Option (zSt)} (hk50 : ∀ (y0 : zSt) (y1 : Int32), zKeM σ0 y0 → zpc (k50 y0 y1) (fun r => zKeM σ0 (r))) {σ : zSt} {x1 : Int32} (h : zKeM σ0 σ) : zpc (fX12_restore_50_body k50 σ x1) (fun r => zKeM σ0 (r)) := by
  unfold fX12_restore_50_body
  exact zpc_if (fun _ => w_fX12_restore_75 _ _ _ h) (fun _ => zpc_ck (zpc_ck (zpc_bs (zKeM.wl h) (fun σ14 hσ14 => zpc_bv (fun v15 _ => hk50 _ _ hσ14)))))
theorem w_fX12_restore_50 {σ0 : zSt} : ∀ (n : Nat) (y0 : zSt) (y1 : Int32), zKeM σ0 y0 → zpc (fX12_restore_50 n y0 y1) (fun r => zKeM σ0 (r)) := by
  intro n
  induction n with
  | zero => intro y0 y1 h; exact zpc_none
  | succ n ih => intro y0 y1 h; exact w_fX12_restore_50_body ih h
theorem w_fX12_restore_23_body {σ0 : zSt} {k23 : zSt → Int32 → Option (zSt)} (hk23 : ∀ (y0 : zSt) (y1 : Int32), zKeM σ0 y0 → zpc (k23 y0 y1) (fun r => zKeM σ0 (r))) {σ : zSt} {x1 : Int32} (h : zKeM σ0 σ) : zpc (fX12_restore_23_body k23 σ x1) (fun r => zKeM σ0 (r)) := by
  unfold fX12_restore_23_body
  exact zpc_if (fun _ => w_fX12_restore_50 _ _ _ h) (fun _ => zpc_ck (zpc_ck (zpc_bs (zKeM.wi h (by decide)) (fun σ16 hσ16 => zpc_bv (fun v17 _ => hk23 _ _ hσ16)))))
theorem w_fX12_restore_23 {σ0 : zSt} : ∀ (n : Nat) (y0 : zSt) (y1 : Int32), zKeM σ0 y0 → zpc (fX12_restore_23 n y0 y1) (fun r => zKeM σ0 (r)) := by
  intro n
  induction n with
  | zero => intro y0 y1 h; exact zpc_none
  | succ n ih => intro y0 y1 h; exact w_fX12_restore_23_body ih h
theorem w_fX12_restore_13 {σ0 : zSt} {σ : zSt} {s0 : Int32} (h : zKeM σ0 σ) : zpc (fX12_restore_13 σ s0) (fun r => zKeM σ0 (r)) := by
  unfold fX12_restore_13
  exact zpc_bi (w_fX12_fails h) (fun σ18 v19 hσ18 => zpc_if (fun _ => w_fX12_restore_23 _ _ _ hσ18) (fun _ => zpc_some hσ18))
theorem w_fX12_restore {σ0 : zSt} {σ : zSt} (h : zKeM σ0 σ) : zpc (fX12_restore σ) (fun r => zKeM σ0 (r)) := by
  unfold fX12_restore
  exact zpc_if (fun _ => w_fX12_restore_13 h) (fun _ => w_fX12_restore_13 h)
theorem w_fX12_register_35 {σ0 : zSt} {σ : zSt} {s0 : Int32} (h : zKeM σ0 σ) : zpc (fX12_register_35 σ s0) (fun r => zKeM σ0 (r.1)) := by
  unfold fX12_register_35
  exact zpc_some h
theorem w_fX12_register_18 {σ0 : zSt} {σ : zSt} {x1 : Int32} {s0 : Int32} (h : zKeM σ0 σ) : zpc (fX12_register_18 σ x1 s0) (fun r => zKeM σ0 (r.1)) := by
  unfold fX12_register_18
  exact zpc_bi (w_fX12_fails h) (fun σ1 v2 hσ1 => zpc_if (fun _ => zpc_ck (w_fX12_register_35 hσ1)) (fun _ => w_fX12_register_35 hσ1))
theorem w_fX12_register {σ0 : zSt} {σ : zSt} {x1 : Int32} (h : zKeM σ0 σ) : zpc (fX12_register σ x1) (fun r => zKeM σ0 (r.1)) := by
  unfold fX12_register
  exact zpc_bi (w_fX12_within h) (fun σ3 v4 hσ3 => zpc_if (fun _ => w_fX12_register_18 hσ3) (fun _ => w_fX12_register_18 hσ3))
theorem w_fX12_set_105 {σ0 : zSt} {σ : zSt} (h : zKeM σ0 σ) : zpc (fX12_set_105 σ) (fun r => zKeM σ0 (r)) := by
  unfold fX12_set_105
  exact zpc_some h
theorem w_fX12_set_51 {σ0 : zSt} {σ : zSt} {s0 : Int32} {s1 : Int32} (h : zKeM σ0 σ) : zpc (fX12_set_51 σ s0 s1) (fun r => zKeM σ0 (r)) := by
  unfold fX12_set_51
  exact zpc_ck (zpc_bs (zKeM.wi h (by decide)) (fun σ1 hσ1 => w_fX12_set_105 hσ1))
theorem w_fX12_set_104 {σ0 : zSt} {σ : zSt} {s0 : Int32} {s1 : Int32} (h : zKeM σ0 σ) : zpc (fX12_set_104 σ s0 s1) (fun r => zKeM σ0 (r)) := by
  unfold fX12_set_104
  exact zpc_ck (zpc_bs (zKeM.wi h (by decide)) (fun σ2 hσ2 => w_fX12_set_105 hσ2))
theorem w_fX12_set_18 {σ0 : zSt} {σ : zSt} {x1 : Int32} {x2 : Int32} {s0 : Int32} (h : zKeM σ0 σ) : zpc (fX12_set_18 σ x1 x2 s0) (fun r => zKeM σ0 (r)) := by
  unfold fX12_set_18
  exact zpc_bi (w_fX12_fails h) (fun σ3 v4 hσ3 => zpc_if (fun _ => zpc_if (fun _ => zpc_if (fun _ => w_fX12_set_51 hσ3) (fun _ => w_fX12_set_51 hσ3)) (fun _ => zpc_if (fun _ => zpc_if (fun _ => zpc_if (fun _ => w_fX12_set_104 hσ3) (fun _ => w_fX12_set_104 hσ3)) (fun _ => w_fX12_set_104 hσ3)) (fun _ => w_fX12_set_104 hσ3))) (fun _ => zpc_some hσ3))
theorem w_fX12_set {σ0 : zSt} {σ : zSt} {x1 : Int32} {x2 : Int32} (h : zKeM σ0 σ) : zpc (fX12_set σ x1 x2) (fun r => zKeM σ0 (r)) := by
  unfold fX12_set
  exact zpc_bi (w_fX12_within h) (fun σ5 v6 hσ5 => zpc_if (fun _ => w_fX12_set_18 hσ5) (fun _ => w_fX12_set_18 hσ5))
theorem w_fX12_peek {σ0 : zSt} {σ : zSt} {x1 : Int32} (h : zKeM σ0 σ) : zpc (fX12_peek σ x1) (fun r => zKeM σ0 (r.1)) := by
  unfold fX12_peek
  exact zpc_bs (zKeM.w0 h (by decide)) (fun σ1 hσ1 => zpc_bi (w_fX12_read hσ1) (fun σ2 v3 hσ2 => zpc_some hσ2))
theorem w_fX12_poke {σ0 : zSt} {σ : zSt} {x1 : Int32} {x2 : Int32} (h : zKeM σ0 σ) : zpc (fX12_poke σ x1 x2) (fun r => zKeM σ0 (r)) := by
  unfold fX12_poke
  exact zpc_bs (zKeM.w0 h (by decide)) (fun σ1 hσ1 => zpc_bu (w_fX12_write hσ1) (fun σ2 hσ2 => zpc_some hσ2))
theorem w_fX12_in {σ0 : zSt} {σ : zSt} {x1 : Int32} (h : zKeM σ0 σ) : zpc (fX12_in σ x1) (fun r => zKeM σ0 (r.1)) := by
  unfold fX12_in
  exact zpc_bs (zKeM.w0 h (by decide)) (fun σ1 hσ1 => zpc_bi (w_fX12_port hσ1) (fun σ2 v3 hσ2 => zpc_some hσ2))
theorem w_fX12_out {σ0 : zSt} {σ : zSt} {x1 : Int32} {x2 : Int32} (h : zKeM σ0 σ) : zpc (fX12_out σ x1 x2) (fun r => zKeM σ0 (r)) := by
  unfold fX12_out
  exact zpc_bs (zKeM.w0 h (by decide)) (fun σ1 hσ1 => zpc_bu (w_fX12_portTo hσ1) (fun σ2 hσ2 => zpc_some hσ2))
theorem w_fX12_battery_39 {σ0 : zSt} {σ : zSt} {s0 : Int32} (h : zKeM σ0 σ) : zpc (fX12_battery_39 σ s0) (fun r => zKeM σ0 (r.1)) := by
  unfold fX12_battery_39
  exact zpc_some h
theorem w_fX12_battery_18 {σ0 : zSt} {σ : zSt} {x1 : Int32} {s0 : Int32} (h : zKeM σ0 σ) : zpc (fX12_battery_18 σ x1 s0) (fun r => zKeM σ0 (r.1)) := by
  unfold fX12_battery_18
  exact zpc_bi (w_fX12_fails h) (fun σ1 v2 hσ1 => zpc_if (fun _ => zpc_ck (w_fX12_battery_39 hσ1)) (fun _ => w_fX12_battery_39 hσ1))
theorem w_fX12_battery {σ0 : zSt} {σ : zSt} {x1 : Int32} (h : zKeM σ0 σ) : zpc (fX12_battery σ x1) (fun r => zKeM σ0 (r.1)) := by
  unfold fX12_battery
  exact zpc_bi (w_fX12_within h) (fun σ3 v4 hσ3 => zpc_if (fun _ => w_fX12_battery_18 hσ3) (fun _ => w_fX12_battery_18 hσ3))
theorem w_fX12_wipe_7_body {σ0 : zSt} {k7 : zSt → Int32 → Option (zSt)} (hk7 : ∀ (y0 : zSt) (y1 : Int32), zKeM σ0 y0 → zpc (k7 y0 y1) (fun r => zKeM σ0 (r))) {σ : zSt} {x1 : Int32} (h : zKeM σ0 σ) : zpc (fX12_wipe_7_body k7 σ x1) (fun r => zKeM σ0 (r)) := by
  unfold fX12_wipe_7_body
  exact zpc_if (fun _ => zpc_some h) (fun _ => zpc_ck (zpc_bs (zKeM.wi h (by decide)) (fun σ1 hσ1 => zpc_bv (fun v2 _ => hk7 _ _ hσ1))))
theorem w_fX12_wipe_7 {σ0 : zSt} : ∀ (n : Nat) (y0 : zSt) (y1 : Int32), zKeM σ0 y0 → zpc (fX12_wipe_7 n y0 y1) (fun r => zKeM σ0 (r)) := by
  intro n
  induction n with
  | zero => intro y0 y1 h; exact zpc_none
  | succ n ih => intro y0 y1 h; exact w_fX12_wipe_7_body ih h
theorem w_fX12_wipe {σ0 : zSt} {σ : zSt} (h : zKeM σ0 σ) : zpc (fX12_wipe σ) (fun r => zKeM σ0 (r)) := by
  unfold fX12_wipe
  exact zpc_bs (zKeM.w0 h (by decide)) (fun σ3 hσ3 => w_fX12_wipe_7 _ _ _ hσ3)
theorem w_fX12_video_11_body {σ0 : zSt} {k11 : zSt → Int32 → Int64 → Int32 → Option (zSt × Int64)} (hk11 : ∀ (y0 : zSt) (y1 : Int32) (y2 : Int64) (y3 : Int32), zKeM σ0 y0 → zpc (k11 y0 y1 y2 y3) (fun r => zKeM σ0 (r.1))) {σ : zSt} {x1 : Int32} {x2 : Int64} {x4 : Int32} (h : zKeM σ0 σ) : zpc (fX12_video_11_body k11 σ x1 x2 x4) (fun r => zKeM σ0 (r.1)) := by
  unfold fX12_video_11_body
  exact zpc_if (fun _ => zpc_some h) (fun _ => zpc_bi (w_fX12_video8 h) (fun σ1 v2 hσ1 => zpc_bv (fun v3 _ => zpc_bv (fun v4 _ => hk11 _ _ _ _ hσ1))))
theorem w_fX12_video_11 {σ0 : zSt} : ∀ (n : Nat) (y0 : zSt) (y1 : Int32) (y2 : Int64) (y3 : Int32), zKeM σ0 y0 → zpc (fX12_video_11 n y0 y1 y2 y3) (fun r => zKeM σ0 (r.1)) := by
  intro n
  induction n with
  | zero => intro y0 y1 y2 y3 h; exact zpc_none
  | succ n ih => intro y0 y1 y2 y3 h; exact w_fX12_video_11_body ih h
theorem w_fX12_video {σ0 : zSt} {σ : zSt} {x1 : Int32} (h : zKeM σ0 σ) : zpc (fX12_video σ x1) (fun r => zKeM σ0 (r.1)) := by
  unfold fX12_video
  exact zpc_bs (zKeM.w0 h (by decide)) (fun σ5 hσ5 => w_fX12_video_11 _ _ _ _ _ hσ5)
theorem w_fX12_chip_136 {σ0 : zSt} {σ : zSt} {s0 : Int32} (h : zKeM σ0 σ) : zpc (fX12_chip_136 σ s0) (fun r => zKeM σ0 (r.1)) := by
  unfold fX12_chip_136
  exact zpc_some h
theorem w_fX12_chip_32 {σ0 : zSt} {σ : zSt} {x1 : Int32} {s0 : Int32} (h : zKeM σ0 σ) : zpc (fX12_chip_32 σ x1 s0) (fun r => zKeM σ0 (r.1)) := by
  unfold fX12_chip_32
  exact zpc_bi (w_fX12_fails h) (fun σ1 v2 hσ1 => zpc_if (fun _ => zpc_if (fun _ => zpc_if (fun _ => zpc_if (fun _ => zpc_bi (w_fX12_asks hσ1) (fun σ3 v4 hσ3 => zpc_if (fun _ => w_fX12_chip_136 hσ3) (fun _ => w_fX12_chip_136 hσ3))) (fun _ => zpc_if (fun _ => zpc_ck (zpc_some hσ1)) (fun _ => zpc_if (fun _ => zpc_ck (zpc_some hσ1)) (fun _ => zpc_if (fun _ => zpc_ck (zpc_some hσ1)) (fun _ => zpc_if (fun _ => zpc_ck (zpc_some hσ1)) (fun _ => zpc_if (fun _ => zpc_bi (w_fX12_mode hσ1) (fun σ5 v6 hσ5 => zpc_some hσ5)) (fun _ => zpc_if (fun _ => zpc_bi (w_fX12_height hσ1) (fun σ7 v8 hσ7 => zpc_some hσ7)) (fun _ => zpc_if (fun _ => zpc_bi (w_fX12_hCount hσ1) (fun σ9 v10 hσ9 => zpc_some hσ9)) (fun _ => zpc_bi (w_fX12_vCount hσ1) (fun σ11 v12 hσ11 => zpc_some hσ11)))))))))) (fun _ => zpc_ck (zpc_some hσ1))) (fun _ => zpc_ck (zpc_some hσ1))) (fun _ => zpc_some hσ1))
theorem w_fX12_chip_31 {σ0 : zSt} {σ : zSt} {x1 : Int32} (h : zKeM σ0 σ) : zpc (fX12_chip_31 σ x1) (fun r => zKeM σ0 (r.1)) := by
  unfold fX12_chip_31
  exact w_fX12_chip_32 h
theorem w_fX12_chip {σ0 : zSt} {σ : zSt} {x1 : Int32} (h : zKeM σ0 σ) : zpc (fX12_chip σ x1) (fun r => zKeM σ0 (r.1)) := by
  unfold fX12_chip
  exact zpc_bi (w_fX12_within h) (fun σ13 v14 hσ13 => zpc_if (fun _ => zpc_bi (w_fX12_within hσ13) (fun σ15 v16 hσ15 => zpc_if (fun _ => w_fX12_chip_32 hσ15) (fun _ => w_fX12_chip_31 hσ15))) (fun _ => w_fX12_chip_31 hσ13))
theorem w_fX12_trace_50 {σ0 : zSt} {σ : zSt} {s0 : Int32} (h : zKeM σ0 σ) : zpc (fX12_trace_50 σ s0) (fun r => zKeM σ0 (r.1)) := by
  unfold fX12_trace_50
  exact zpc_some h
theorem w_fX12_trace_27 {σ0 : zSt} {σ : zSt} (h : zKeM σ0 σ) : zpc (fX12_trace_27 σ) (fun r => zKeM σ0 (r.1)) := by
  unfold fX12_trace_27
  exact w_fX12_trace_50 h
theorem w_fX12_trace {σ0 : zSt} {σ : zSt} {x1 : Int32} (h : zKeM σ0 σ) : zpc (fX12_trace σ x1) (fun r => zKeM σ0 (r.1)) := by
  unfold fX12_trace
  exact zpc_bs (zKeM.w0 h (by decide)) (fun σ1 hσ1 => zpc_bi (w_fX12_within hσ1) (fun σ2 v3 hσ2 => zpc_if (fun _ => w_fX12_trace_27 hσ2) (fun _ => zpc_if (fun _ => zpc_ck (zpc_ck (w_fX12_trace_50 hσ2))) (fun _ => w_fX12_trace_27 hσ2))))
theorem w_fX12_look_116 {σ0 : zSt} {σ : zSt} {x1 : Int32} (h : zKeM σ0 σ) : zpc (fX12_look_116 σ x1) (fun r => zKeM σ0 (r.1)) := by
  unfold fX12_look_116
  exact zpc_ck (zpc_some h)
theorem w_fX12_look_169 {σ0 : zSt} {σ : zSt} {x1 : Int32} (h : zKeM σ0 σ) : zpc (fX12_look_169 σ x1) (fun r => zKeM σ0 (r.1)) := by
  unfold fX12_look_169
  exact zpc_ck (zpc_some h)
theorem w_fX12_look_222 {σ0 : zSt} {σ : zSt} {s0 : Int64} (h : zKeM σ0 σ) : zpc (fX12_look_222 σ s0) (fun r => zKeM σ0 (r.1)) := by
  unfold fX12_look_222
  exact zpc_some h
theorem w_fX12_look_18 {σ0 : zSt} {σ : zSt} {x1 : Int32} {s0 : Int32} (h : zKeM σ0 σ) : zpc (fX12_look_18 σ x1 s0) (fun r => zKeM σ0 (r.1)) := by
  unfold fX12_look_18
  exact zpc_bi (w_fX12_fails h) (fun σ1 v2 hσ1 => zpc_if (fun _ => zpc_if (fun _ => w_fX12_look_116 hσ1) (fun _ => zpc_if (fun _ => w_fX12_look_116 hσ1) (fun _ => zpc_if (fun _ => w_fX12_look_116 hσ1) (fun _ => zpc_if (fun _ => zpc_ck (zpc_some hσ1)) (fun _ => zpc_if (fun _ => zpc_ck (zpc_some hσ1)) (fun _ => zpc_if (fun _ => zpc_some hσ1) (fun _ => zpc_if (fun _ => zpc_ck (zpc_some hσ1)) (fun _ => zpc_if (fun _ => zpc_some hσ1) (fun _ => zpc_if (fun _ => zpc_ck (zpc_some hσ1)) (fun _ => zpc_if (fun _ => w_fX12_look_169 hσ1) (fun _ => zpc_if (fun _ => w_fX12_look_169 hσ1) (fun _ => zpc_if (fun _ => w_fX12_look_169 hσ1) (fun _ => zpc_if (fun _ => zpc_ck (zpc_some hσ1)) (fun _ => zpc_if (fun _ => zpc_ck (zpc_some hσ1)) (fun _ => zpc_if (fun _ => zpc_ck (zpc_some hσ1)) (fun _ => zpc_if (fun _ => zpc_if (fun _ => w_fX12_look_222 hσ1) (fun _ => w_fX12_look_222 hσ1)) (fun _ => zpc_if (fun _ => zpc_ck (zpc_some hσ1)) (fun _ => zpc_if (fun _ => zpc_ck (zpc_some hσ1)) (fun _ => zpc_some hσ1))))))))))))))))))) (fun _ => zpc_some hσ1))
theorem w_fX12_look {σ0 : zSt} {σ : zSt} {x1 : Int32} (h : zKeM σ0 σ) : zpc (fX12_look σ x1) (fun r => zKeM σ0 (r.1)) := by
  unfold fX12_look
  exact zpc_bi (w_fX12_within h) (fun σ3 v4 hσ3 => zpc_if (fun _ => w_fX12_look_18 hσ3) (fun _ => w_fX12_look_18 hσ3))
theorem w_fX12_mix_17 {σ0 : zSt} {σ : zSt} {s0 : Int32} (h : zKeM σ0 σ) : zpc (fX12_mix_17 σ s0) (fun r => zKeM σ0 (r.1)) := by
  unfold fX12_mix_17
  exact zpc_bi (w_fX12_fails h) (fun σ1 v2 hσ1 => zpc_if (fun _ => zpc_ck (zpc_ck (zpc_bv (fun v3 _ => zpc_ck (zpc_ck (zpc_ck (zpc_bs (zKeM.wi hσ1 (by decide)) (fun σ4 hσ4 => zpc_ck (zpc_ck (zpc_bs (zKeM.wi hσ4 (by decide)) (fun σ5 hσ5 => zpc_some hσ5))))))))))) (fun _ => zpc_some hσ1))
theorem w_fX12_mix {σ0 : zSt} {σ : zSt} (h : zKeM σ0 σ) : zpc (fX12_mix σ) (fun r => zKeM σ0 (r.1)) := by
  unfold fX12_mix
  exact zpc_ck (zpc_if (fun _ => w_fX12_mix_17 h) (fun _ => w_fX12_mix_17 h))
theorem w_fX12_wave_41 {σ0 : zSt} {σ : zSt} {x1 : Int32} {s0 : Int32} (h : zKeM σ0 σ) : zpc (fX12_wave_41 σ x1 s0) (fun r => zKeM σ0 (r.1)) := by
  unfold fX12_wave_41
  exact zpc_bi (w_fX12_fails h) (fun σ1 v2 hσ1 => zpc_if (fun _ => zpc_if (fun _ => zpc_if (fun _ => zpc_ck (zpc_some hσ1)) (fun _ => zpc_if (fun _ => zpc_ck (zpc_some hσ1)) (fun _ => zpc_if (fun _ => zpc_ck (zpc_ck (zpc_some hσ1))) (fun _ => zpc_if (fun _ => zpc_ck (zpc_some hσ1)) (fun _ => zpc_ck (zpc_ck (zpc_ck (zpc_some hσ1)))))))) (fun _ => zpc_bi (w_fX12_wreg hσ1) (fun σ3 v4 hσ3 => zpc_some hσ3))) (fun _ => zpc_some hσ1))
theorem w_fX12_wave_40 {σ0 : zSt} {σ : zSt} {x1 : Int32} (h : zKeM σ0 σ) : zpc (fX12_wave_40 σ x1) (fun r => zKeM σ0 (r.1)) := by
  unfold fX12_wave_40
  exact w_fX12_wave_41 h
theorem w_fX12_wave_36 {σ0 : zSt} {σ : zSt} {x1 : Int32} (h : zKeM σ0 σ) : zpc (fX12_wave_36 σ x1) (fun r => zKeM σ0 (r.1)) := by
  unfold fX12_wave_36
  exact w_fX12_wave_41 h
theorem w_fX12_wave {σ0 : zSt} {σ : zSt} {x1 : Int32} (h : zKeM σ0 σ) : zpc (fX12_wave σ x1) (fun r => zKeM σ0 (r.1)) := by
  unfold fX12_wave
  exact zpc_bi (w_fX12_within h) (fun σ5 v6 hσ5 => zpc_if (fun _ => zpc_bi (w_fX12_within hσ5) (fun σ7 v8 hσ7 => zpc_if (fun _ => w_fX12_wave_36 hσ7) (fun _ => zpc_ck (zpc_if (fun _ => w_fX12_wave_40 hσ7) (fun _ => w_fX12_wave_36 hσ7))))) (fun _ => w_fX12_wave_40 hσ5))
theorem w_fX12_plan_110 {σ0 : zSt} {σ : zSt} (h : zKeM σ0 σ) : zpc (fX12_plan_110 σ) (fun r => zKeM σ0 (r.1)) := by
  unfold fX12_plan_110
  exact zpc_some h
theorem w_fX12_plan_103 {σ0 : zSt} {σ : zSt} {x1 : Int32} {x2 : Int32} {x3 : Int32} {s0 : Int32} (h : zKeM σ0 σ) : zpc (fX12_plan_103 σ x1 x2 x3 s0) (fun r => zKeM σ0 (r.1)) := by
  unfold fX12_plan_103
  exact zpc_bi (w_fX12_fails h) (fun σ1 v2 hσ1 => zpc_if (fun _ => zpc_ck (zpc_bv (fun v3 _ => zpc_ck (zpc_bs (zKeM.wi hσ1 (by decide)) (fun σ4 hσ4 => zpc_ck (zpc_bs (zKeM.wi hσ4 (by decide)) (fun σ5 hσ5 => zpc_ck (zpc_bs (zKeM.wi hσ5 (by decide)) (fun σ6 hσ6 => zpc_ck (zpc_ck (zpc_bs (zKeM.wi hσ6 (by decide)) (fun σ7 hσ7 => zpc_ck (zpc_some hσ7))))))))))))) (fun _ => w_fX12_plan_110 hσ1))
theorem w_fX12_plan_76 {σ0 : zSt} {σ : zSt} {x1 : Int32} {x2 : Int32} {x3 : Int32} {s0 : Int32} (h : zKeM σ0 σ) : zpc (fX12_plan_76 σ x1 x2 x3 s0) (fun r => zKeM σ0 (r.1)) := by
  unfold fX12_plan_76
  exact zpc_bi (w_fX12_fails h) (fun σ8 v9 hσ8 => zpc_if (fun _ => zpc_ck (zpc_if (fun _ => w_fX12_plan_103 hσ8) (fun _ => w_fX12_plan_103 hσ8))) (fun _ => w_fX12_plan_110 hσ8))
theorem w_fX12_plan_71 {σ0 : zSt} {σ : zSt} {x1 : Int32} {x2 : Int32} {x3 : Int32} (h : zKeM σ0 σ) : zpc (fX12_plan_71 σ x1 x2 x3) (fun r => zKeM σ0 (r.1)) := by
  unfold fX12_plan_71
  exact w_fX12_plan_76 h
theorem w_fX12_plan_36 {σ0 : zSt} {σ : zSt} {x1 : Int32} {x2 : Int32} {x3 : Int32} {s0 : Int32} (h : zKeM σ0 σ) : zpc (fX12_plan_36 σ x1 x2 x3 s0) (fun r => zKeM σ0 (r.1)) := by
  unfold fX12_plan_36
  exact zpc_if (fun _ => w_fX12_plan_71 h) (fun _ => zpc_if (fun _ => w_fX12_plan_71 h) (fun _ => zpc_bi (w_fX12_within h) (fun σ10 v11 hσ10 => zpc_if (fun _ => w_fX12_plan_71 hσ10) (fun _ => zpc_bi (w_fX12_within hσ10) (fun σ12 v13 hσ12 => zpc_if (fun _ => w_fX12_plan_71 hσ12) (fun _ => w_fX12_plan_76 hσ12))))))
theorem w_fX12_plan {σ0 : zSt} {σ : zSt} {x1 : Int32} {x2 : Int32} {x3 : Int32} (h : zKeM σ0 σ) : zpc (fX12_plan σ x1 x2 x3) (fun r => zKeM σ0 (r.1)) := by
  unfold fX12_plan
  exact zpc_ck (zpc_if (fun _ => w_fX12_plan_36 h) (fun _ => zpc_ck (zpc_ck (w_fX12_plan_36 h))))
theorem w_fX12_say_2_body {σ0 : zSt} {k2 : zSt → Nat → Int32 → Option (zSt)} (hk2 : ∀ (y0 : zSt) (y1 : Nat) (y2 : Int32), zKeM σ0 y0 → zpc (k2 y0 y1 y2) (fun r => zKeM σ0 (r))) {σ : zSt} {n1 : Nat} {x2 : Int32} (h : zKeM σ0 σ) : zpc (fX12_say_2_body k2 σ n1 x2) (fun r => zKeM σ0 (r)) := by
  unfold fX12_say_2_body
  exact zpc_ck (zpc_if (fun _ => zpc_some h) (fun _ => zpc_ck (zpc_ck (zpc_ck (zpc_bs (zKeM.wi h (by decide)) (fun σ1 hσ1 => zpc_bs (zKeM.w0 hσ1 (by decide)) (fun σ2 hσ2 => zpc_bv (fun v3 _ => hk2 _ _ _ hσ2))))))))
theorem w_fX12_say_2 {σ0 : zSt} : ∀ (n : Nat) (y0 : zSt) (y1 : Nat) (y2 : Int32), zKeM σ0 y0 → zpc (fX12_say_2 n y0 y1 y2) (fun r => zKeM σ0 (r)) := by
  intro n
  induction n with
  | zero => intro y0 y1 y2 h; exact zpc_none
  | succ n ih => intro y0 y1 y2 h; exact w_fX12_say_2_body ih h
theorem w_fX12_say {σ0 : zSt} {σ : zSt} {n1 : Nat} (h : zKeM σ0 σ) : zpc (fX12_say σ n1) (fun r => zKeM σ0 (r)) := by
  unfold fX12_say
  exact w_fX12_say_2 _ _ _ _ h
theorem w_fX12_hex_49 {σ0 : zSt} {k4 : zSt → Int32 → Int32 → Option (zSt)} (hk4 : ∀ (y0 : zSt) (y1 : Int32) (y2 : Int32), zKeM σ0 y0 → zpc (k4 y0 y1 y2) (fun r => zKeM σ0 (r))) {σ : zSt} {x1 : Int32} {x3 : Int32} {s0 : Int32} {s1 : Int32} (h : zKeM σ0 σ) : zpc (fX12_hex_49 k4 σ x1 x3 s0 s1) (fun r => zKeM σ0 (r)) := by
  unfold fX12_hex_49
  exact zpc_ck (zpc_bs (zKeM.wi h (by decide)) (fun σ1 hσ1 => zpc_bs (zKeM.w0 hσ1 (by decide)) (fun σ2 hσ2 => zpc_bv (fun v3 _ => hk4 _ _ _ hσ2))))
theorem w_fX12_hex_4_body {σ0 : zSt} {k4 : zSt → Int32 → Int32 → Option (zSt)} (hk4 : ∀ (y0 : zSt) (y1 : Int32) (y2 : Int32), zKeM σ0 y0 → zpc (k4 y0 y1 y2) (fun r => zKeM σ0 (r))) {σ : zSt} {x1 : Int32} {x3 : Int32} (h : zKeM σ0 σ) : zpc (fX12_hex_4_body k4 σ x1 x3) (fun r => zKeM σ0 (r)) := by
  unfold fX12_hex_4_body
  exact zpc_if (fun _ => zpc_some h) (fun _ => zpc_bv (fun v4 _ => zpc_if (fun _ => w_fX12_hex_49 hk4 h) (fun _ => w_fX12_hex_49 hk4 h)))
theorem w_fX12_hex_4 {σ0 : zSt} : ∀ (n : Nat) (y0 : zSt) (y1 : Int32) (y2 : Int32), zKeM σ0 y0 → zpc (fX12_hex_4 n y0 y1 y2) (fun r => zKeM σ0 (r)) := by
  intro n
  induction n with
  | zero => intro y0 y1 y2 h; exact zpc_none
  | succ n ih => intro y0 y1 y2 h; exact w_fX12_hex_4_body ih h
theorem w_fX12_hex {σ0 : zSt} {σ : zSt} {x1 : Int32} {x2 : Int32} (h : zKeM σ0 σ) : zpc (fX12_hex σ x1 x2) (fun r => zKeM σ0 (r)) := by
  unfold fX12_hex
  exact zpc_bv (fun v5 _ => w_fX12_hex_4 _ _ _ _ h)
theorem w_fX12_taken {σ0 : zSt} {σ : zSt} (h : zKeM σ0 σ) : zpc (fX12_taken σ) (fun r => zKeM σ0 (r.1)) := by
  unfold fX12_taken
  exact zpc_bi (w_fX12_read h) (fun σ1 v2 hσ1 => zpc_bs (zKeM.w0 hσ1 (by decide)) (fun σ3 hσ3 => zpc_some hσ3))
theorem w_fX12_takenWord {σ0 : zSt} {σ : zSt} (h : zKeM σ0 σ) : zpc (fX12_takenWord σ) (fun r => zKeM σ0 (r.1)) := by
  unfold fX12_takenWord
  exact zpc_bi (w_fX12_taken h) (fun σ1 v2 hσ1 => zpc_bi (w_fX12_taken hσ1) (fun σ3 v4 hσ3 => zpc_some hσ3))
theorem w_fX12_sayHl_31 {σ0 : zSt} {σ : zSt} {s0 : Nat} (h : zKeM σ0 σ) : zpc (fX12_sayHl_31 σ s0) (fun r => zKeM σ0 (r)) := by
  unfold fX12_sayHl_31
  exact zpc_bu (w_fX12_say h) (fun σ1 hσ1 => zpc_some hσ1)
theorem w_fX12_sayHl {σ0 : zSt} {σ : zSt} (h : zKeM σ0 σ) : zpc (fX12_sayHl σ) (fun r => zKeM σ0 (r)) := by
  unfold fX12_sayHl
  exact zpc_if (fun _ => w_fX12_sayHl_31 h) (fun _ => zpc_if (fun _ => w_fX12_sayHl_31 h) (fun _ => w_fX12_sayHl_31 h))
theorem w_fX12_sayPlace_76 {σ0 : zSt} {σ : zSt} {s0 : Int32} (h : zKeM σ0 σ) : zpc (fX12_sayPlace_76 σ s0) (fun r => zKeM σ0 (r)) := by
  unfold fX12_sayPlace_76
  exact zpc_bu (w_fX12_hex h) (fun σ1 hσ1 => zpc_bu (w_fX12_say hσ1) (fun σ2 hσ2 => zpc_some hσ2))
theorem w_fX12_sayPlace_53 {σ0 : zSt} {σ : zSt} {s0 : Nat} (h : zKeM σ0 σ) : zpc (fX12_sayPlace_53 σ s0) (fun r => zKeM σ0 (r)) := by
  unfold fX12_sayPlace_53
  exact zpc_bu (w_fX12_say h) (fun σ3 hσ3 => zpc_if (fun _ => w_fX12_sayPlace_76 hσ3) (fun _ => w_fX12_sayPlace_76 hσ3))
theorem w_fX12_sayPlace_33 {σ0 : zSt} {σ : zSt} {s0 : Nat} (h : zKeM σ0 σ) : zpc (fX12_sayPlace_33 σ s0) (fun r => zKeM σ0 (r)) := by
  unfold fX12_sayPlace_33
  exact zpc_bu (w_fX12_say h) (fun σ4 hσ4 => zpc_if (fun _ => w_fX12_sayPlace_53 hσ4) (fun _ => w_fX12_sayPlace_53 hσ4))
theorem w_fX12_sayPlace {σ0 : zSt} {σ : zSt} (h : zKeM σ0 σ) : zpc (fX12_sayPlace σ) (fun r => zKeM σ0 (r)) := by
  unfold fX12_sayPlace
  exact zpc_if (fun _ => zpc_bu (w_fX12_say h) (fun σ5 hσ5 => zpc_some hσ5)) (fun _ => zpc_if (fun _ => w_fX12_sayPlace_33 h) (fun _ => w_fX12_sayPlace_33 h))
theorem w_fX12_sayR_108 {σ0 : zSt} {σ : zSt} {s0 : Nat} (h : zKeM σ0 σ) : zpc (fX12_sayR_108 σ s0) (fun r => zKeM σ0 (r)) := by
  unfold fX12_sayR_108
  exact zpc_bu (w_fX12_say h) (fun σ1 hσ1 => zpc_some hσ1)
theorem w_fX12_sayR_39 {σ0 : zSt} {σ : zSt} {x1 : Int32} (h : zKeM σ0 σ) : zpc (fX12_sayR_39 σ x1) (fun r => zKeM σ0 (r)) := by
  unfold fX12_sayR_39
  exact zpc_if (fun _ => w_fX12_sayR_108 h) (fun _ => zpc_if (fun _ => w_fX12_sayR_108 h) (fun _ => zpc_if (fun _ => w_fX12_sayR_108 h) (fun _ => zpc_if (fun _ => w_fX12_sayR_108 h) (fun _ => zpc_if (fun _ => w_fX12_sayR_108 h) (fun _ => zpc_if (fun _ => w_fX12_sayR_108 h) (fun _ => w_fX12_sayR_108 h))))))
theorem w_fX12_sayR_35 {σ0 : zSt} {σ : zSt} {x1 : Int32} (h : zKeM σ0 σ) : zpc (fX12_sayR_35 σ x1) (fun r => zKeM σ0 (r)) := by
  unfold fX12_sayR_35
  exact zpc_bu (w_fX12_sayHl h) (fun σ2 hσ2 => w_fX12_sayR_39 hσ2)
theorem w_fX12_sayR {σ0 : zSt} {σ : zSt} {x1 : Int32} (h : zKeM σ0 σ) : zpc (fX12_sayR σ x1) (fun r => zKeM σ0 (r)) := by
  unfold fX12_sayR
  exact zpc_if (fun _ => zpc_bu (w_fX12_sayPlace h) (fun σ3 hσ3 => zpc_some hσ3)) (fun _ => zpc_if (fun _ => w_fX12_sayR_39 h) (fun _ => zpc_if (fun _ => zpc_if (fun _ => w_fX12_sayR_35 h) (fun _ => zpc_if (fun _ => w_fX12_sayR_35 h) (fun _ => w_fX12_sayR_39 h))) (fun _ => w_fX12_sayR_39 h)))
theorem w_fX12_sayRp_50 {σ0 : zSt} {σ : zSt} (h : zKeM σ0 σ) : zpc (fX12_sayRp_50 σ) (fun r => zKeM σ0 (r)) := by
  unfold fX12_sayRp_50
  exact zpc_some h
theorem w_fX12_sayRp_47 {σ0 : zSt} {σ : zSt} {s0 : Nat} (h : zKeM σ0 σ) : zpc (fX12_sayRp_47 σ s0) (fun r => zKeM σ0 (r)) := by
  unfold fX12_sayRp_47
  exact zpc_bu (w_fX12_say h) (fun σ1 hσ1 => w_fX12_sayRp_50 hσ1)
theorem w_fX12_sayRp {σ0 : zSt} {σ : zSt} {x1 : Int32} {x2 : Int32} (h : zKeM σ0 σ) : zpc (fX12_sayRp σ x1 x2) (fun r => zKeM σ0 (r)) := by
  unfold fX12_sayRp
  exact zpc_if (fun _ => zpc_bu (w_fX12_sayHl h) (fun σ2 hσ2 => w_fX12_sayRp_50 hσ2)) (fun _ => zpc_if (fun _ => w_fX12_sayRp_47 h) (fun _ => zpc_if (fun _ => w_fX12_sayRp_47 h) (fun _ => zpc_if (fun _ => w_fX12_sayRp_47 h) (fun _ => w_fX12_sayRp_47 h))))
theorem w_fX12_sayCc_81 {σ0 : zSt} {σ : zSt} {s0 : Nat} (h : zKeM σ0 σ) : zpc (fX12_sayCc_81 σ s0) (fun r => zKeM σ0 (r)) := by
  unfold fX12_sayCc_81
  exact zpc_bu (w_fX12_say h) (fun σ1 hσ1 => zpc_some hσ1)
theorem w_fX12_sayCc {σ0 : zSt} {σ : zSt} {x1 : Int32} (h : zKeM σ0 σ) : zpc (fX12_sayCc σ x1) (fun r => zKeM σ0 (r)) := by
  unfold fX12_sayCc
  exact zpc_if (fun _ => w_fX12_sayCc_81 h) (fun _ => zpc_if (fun _ => w_fX12_sayCc_81 h) (fun _ => zpc_if (fun _ => w_fX12_sayCc_81 h) (fun _ => zpc_if (fun _ => w_fX12_sayCc_81 h) (fun _ => zpc_if (fun _ => w_fX12_sayCc_81 h) (fun _ => zpc_if (fun _ => w_fX12_sayCc_81 h) (fun _ => zpc_if (fun _ => w_fX12_sayCc_81 h) (fun _ => w_fX12_sayCc_81 h)))))))
theorem w_fX12_sayPlaced {σ0 : zSt} {σ : zSt} {x1 : Int32} (h : zKeM σ0 σ) : zpc (fX12_sayPlaced σ x1) (fun r => zKeM σ0 (r)) := by
  unfold fX12_sayPlaced
  exact zpc_bu (w_fX12_say h) (fun σ1 hσ1 => zpc_bu (w_fX12_hex hσ1) (fun σ2 hσ2 => zpc_bu (w_fX12_say hσ2) (fun σ3 hσ3 => zpc_some hσ3)))
theorem w_fX12_sayJump {σ0 : zSt} {σ : zSt} (h : zKeM σ0 σ) : zpc (fX12_sayJump σ) (fun r => zKeM σ0 (r)) := by
  unfold fX12_sayJump
  exact zpc_bi (w_fX12_taken h) (fun σ1 v2 hσ1 => zpc_bi (w_fX12_signed hσ1) (fun σ3 v4 hσ3 => zpc_bu (w_fX12_hex hσ3) (fun σ5 hσ5 => zpc_some hσ5)))
theorem w_fX12_sayDo_81 {σ0 : zSt} {σ : zSt} {s0 : Nat} (h : zKeM σ0 σ) : zpc (fX12_sayDo_81 σ s0) (fun r => zKeM σ0 (r)) := by
  unfold fX12_sayDo_81
  exact zpc_bu (w_fX12_say h) (fun σ1 hσ1 => zpc_some hσ1)
theorem w_fX12_sayDo {σ0 : zSt} {σ : zSt} {x1 : Int32} (h : zKeM σ0 σ) : zpc (fX12_sayDo σ x1) (fun r => zKeM σ0 (r)) := by
  unfold fX12_sayDo
  exact zpc_if (fun _ => w_fX12_sayDo_81 h) (fun _ => zpc_if (fun _ => w_fX12_sayDo_81 h) (fun _ => zpc_if (fun _ => w_fX12_sayDo_81 h) (fun _ => zpc_if (fun _ => w_fX12_sayDo_81 h) (fun _ => zpc_if (fun _ => w_fX12_sayDo_81 h) (fun _ => zpc_if (fun _ => w_fX12_sayDo_81 h) (fun _ => zpc_if (fun _ => w_fX12_sayDo_81 h) (fun _ => w_fX12_sayDo_81 h)))))))
theorem w_fX12_sayTurn_146 {σ0 : zSt} {σ : zSt} {x1 : Int32} (h : zKeM σ0 σ) : zpc (fX12_sayTurn_146 σ x1) (fun r => zKeM σ0 (r)) := by
  unfold fX12_sayTurn_146
  exact zpc_bu (w_fX12_sayR h) (fun σ1 hσ1 => zpc_some hσ1)
theorem w_fX12_sayTurn_94 {σ0 : zSt} {σ : zSt} {x1 : Int32} {s0 : Nat} (h : zKeM σ0 σ) : zpc (fX12_sayTurn_94 σ x1 s0) (fun r => zKeM σ0 (r)) := by
  unfold fX12_sayTurn_94
  exact zpc_bu (w_fX12_say h) (fun σ2 hσ2 => w_fX12_sayTurn_146 hσ2)
theorem w_fX12_sayTurn_130 {σ0 : zSt} {σ : zSt} {x1 : Int32} {x2 : Int32} {s0 : Nat} (h : zKeM σ0 σ) : zpc (fX12_sayTurn_130 σ x1 x2 s0) (fun r => zKeM σ0 (r)) := by
  unfold fX12_sayTurn_130
  exact zpc_bu (w_fX12_say h) (fun σ3 hσ3 => zpc_bu (w_fX12_hex hσ3) (fun σ4 hσ4 => zpc_bu (w_fX12_say hσ4) (fun σ5 hσ5 => w_fX12_sayTurn_146 hσ5)))
theorem w_fX12_sayTurn {σ0 : zSt} {σ : zSt} {x1 : Int32} (h : zKeM σ0 σ) : zpc (fX12_sayTurn σ x1) (fun r => zKeM σ0 (r)) := by
  unfold fX12_sayTurn
  exact zpc_bv (fun v6 _ => zpc_if (fun _ => zpc_if (fun _ => zpc_if (fun _ => w_fX12_sayTurn_130 h) (fun _ => w_fX12_sayTurn_130 h)) (fun _ => w_fX12_sayTurn_130 h)) (fun _ => zpc_if (fun _ => w_fX12_sayTurn_94 h) (fun _ => zpc_if (fun _ => w_fX12_sayTurn_94 h) (fun _ => zpc_if (fun _ => w_fX12_sayTurn_94 h) (fun _ => zpc_if (fun _ => w_fX12_sayTurn_94 h) (fun _ => zpc_if (fun _ => w_fX12_sayTurn_94 h) (fun _ => zpc_if (fun _ => w_fX12_sayTurn_94 h) (fun _ => zpc_if (fun _ => w_fX12_sayTurn_94 h) (fun _ => w_fX12_sayTurn_94 h)))))))))
theorem w_fX12_sayZero_301 {σ0 : zSt} {σ : zSt} (h : zKeM σ0 σ) : zpc (fX12_sayZero_301 σ) (fun r => zKeM σ0 (r)) := by
  unfold fX12_sayZero_301
  exact zpc_some h
theorem w_fX12_sayZero_80 {σ0 : zSt} {σ : zSt} {x1 : Int32} (h : zKeM σ0 σ) : zpc (fX12_sayZero_80 σ x1) (fun r => zKeM σ0 (r)) := by
  unfold fX12_sayZero_80
  exact zpc_if (fun _ => w_fX12_sayZero_301 h) (fun _ => zpc_bu (w_fX12_sayJump h) (fun σ1 hσ1 => w_fX12_sayZero_301 hσ1))
theorem w_fX12_sayZero_58 {σ0 : zSt} {σ : zSt} {x1 : Int32} {s0 : Nat} (h : zKeM σ0 σ) : zpc (fX12_sayZero_58 σ x1 s0) (fun r => zKeM σ0 (r)) := by
  unfold fX12_sayZero_58
  exact zpc_bu (w_fX12_say h) (fun σ2 hσ2 => zpc_if (fun _ => w_fX12_sayZero_80 hσ2) (fun _ => zpc_bu (w_fX12_sayCc hσ2) (fun σ3 hσ3 => zpc_bu (w_fX12_say hσ3) (fun σ4 hσ4 => w_fX12_sayZero_80 hσ4))))
theorem w_fX12_sayZero_133 {σ0 : zSt} {σ : zSt} {x3 : Int32} {x4 : Int32} (h : zKeM σ0 σ) : zpc (fX12_sayZero_133 σ x3 x4) (fun r => zKeM σ0 (r)) := by
  unfold fX12_sayZero_133
  exact zpc_bu (w_fX12_say h) (fun σ5 hσ5 => zpc_if (fun _ => zpc_bi (w_fX12_takenWord hσ5) (fun σ6 v7 hσ6 => zpc_bu (w_fX12_hex hσ6) (fun σ8 hσ8 => w_fX12_sayZero_301 hσ8))) (fun _ => zpc_bu (w_fX12_sayRp hσ5) (fun σ9 hσ9 => w_fX12_sayZero_301 hσ9)))
theorem w_fX12_sayZero_112 {σ0 : zSt} {σ : zSt} {x3 : Int32} {x4 : Int32} {s0 : Nat} (h : zKeM σ0 σ) : zpc (fX12_sayZero_112 σ x3 x4 s0) (fun r => zKeM σ0 (r)) := by
  unfold fX12_sayZero_112
  exact zpc_bu (w_fX12_say h) (fun σ10 hσ10 => zpc_if (fun _ => zpc_bu (w_fX12_sayRp hσ10) (fun σ11 hσ11 => w_fX12_sayZero_133 hσ11)) (fun _ => zpc_bu (w_fX12_sayHl hσ10) (fun σ12 hσ12 => w_fX12_sayZero_133 hσ12)))
theorem w_fX12_sayZero_186 {σ0 : zSt} {σ : zSt} {x3 : Int32} {s0 : Nat} (h : zKeM σ0 σ) : zpc (fX12_sayZero_186 σ x3 s0) (fun r => zKeM σ0 (r)) := by
  unfold fX12_sayZero_186
  exact zpc_bu (w_fX12_say h) (fun σ13 hσ13 => zpc_bu (w_fX12_sayRp hσ13) (fun σ14 hσ14 => w_fX12_sayZero_301 hσ14))
theorem w_fX12_sayZero_269 {σ0 : zSt} {σ : zSt} {x3 : Int32} {x4 : Int32} (h : zKeM σ0 σ) : zpc (fX12_sayZero_269 σ x3 x4) (fun r => zKeM σ0 (r)) := by
  unfold fX12_sayZero_269
  exact zpc_if (fun _ => zpc_bu (w_fX12_say h) (fun σ15 hσ15 => zpc_if (fun _ => zpc_bu (w_fX12_sayHl hσ15) (fun σ17 hσ17 => w_fX12_sayZero_301 hσ17)) (fun _ => zpc_bu (w_fX12_say hσ15) (fun σ16 hσ16 => w_fX12_sayZero_301 hσ16)))) (fun _ => zpc_some h)
theorem w_fX12_sayZero_255 {σ0 : zSt} {σ : zSt} {x3 : Int32} {x4 : Int32} {s0 : Nat} (h : zKeM σ0 σ) : zpc (fX12_sayZero_255 σ x3 x4 s0) (fun r => zKeM σ0 (r)) := by
  unfold fX12_sayZero_255
  exact zpc_bu (w_fX12_say h) (fun σ18 hσ18 => w_fX12_sayZero_269 hσ18)
theorem w_fX12_sayZero_236 {σ0 : zSt} {σ : zSt} {x3 : Int32} {x4 : Int32} (h : zKeM σ0 σ) : zpc (fX12_sayZero_236 σ x3 x4) (fun r => zKeM σ0 (r)) := by
  unfold fX12_sayZero_236
  exact zpc_if (fun _ => zpc_bi (w_fX12_takenWord h) (fun σ19 v20 hσ19 => zpc_bu (w_fX12_sayPlaced hσ19) (fun σ21 hσ21 => w_fX12_sayZero_269 hσ21))) (fun _ => zpc_if (fun _ => w_fX12_sayZero_255 h) (fun _ => w_fX12_sayZero_255 h))
theorem w_fX12_sayZero_229 {σ0 : zSt} {σ : zSt} {x3 : Int32} {x4 : Int32} (h : zKeM σ0 σ) : zpc (fX12_sayZero_229 σ x3 x4) (fun r => zKeM σ0 (r)) := by
  unfold fX12_sayZero_229
  exact zpc_bu (w_fX12_say h) (fun σ22 hσ22 => w_fX12_sayZero_236 hσ22)
theorem w_fX12_sayZero_16 {σ0 : zSt} {σ : zSt} {x1 : Int32} {x2 : Int32} {x3 : Int32} {s0 : Int32} (h : zKeM σ0 σ) : zpc (fX12_sayZero_16 σ x1 x2 x3 s0) (fun r => zKeM σ0 (r)) := by
  unfold fX12_sayZero_16
  exact zpc_if (fun _ => zpc_if (fun _ => w_fX12_sayZero_58 h) (fun _ => zpc_if (fun _ => w_fX12_sayZero_58 h) (fun _ => zpc_if (fun _ => w_fX12_sayZero_58 h) (fun _ => w_fX12_sayZero_58 h)))) (fun _ => zpc_if (fun _ => zpc_if (fun _ => w_fX12_sayZero_112 h) (fun _ => w_fX12_sayZero_112 h)) (fun _ => zpc_if (fun _ => zpc_if (fun _ => w_fX12_sayZero_186 h) (fun _ => w_fX12_sayZero_186 h)) (fun _ => zpc_bu (w_fX12_say h) (fun σ23 hσ23 => zpc_if (fun _ => w_fX12_sayZero_236 hσ23) (fun _ => zpc_if (fun _ => zpc_bu (w_fX12_sayHl hσ23) (fun σ25 hσ25 => w_fX12_sayZero_229 hσ25)) (fun _ => zpc_bu (w_fX12_say hσ23) (fun σ24 hσ24 => w_fX12_sayZero_229 hσ24)))))))
theorem w_fX12_sayZero {σ0 : zSt} {σ : zSt} {x1 : Int32} {x2 : Int32} (h : zKeM σ0 σ) : zpc (fX12_sayZero σ x1 x2) (fun r => zKeM σ0 (r)) := by
  unfold fX12_sayZero
  exact zpc_bv (fun v26 _ => zpc_ck (zpc_if (fun _ => w_fX12_sayZero_16 h) (fun _ => w_fX12_sayZero_16 h)))
theorem w_fX12_saySingle_87 {σ0 : zSt} {σ : zSt} {s0 : Nat} (h : zKeM σ0 σ) : zpc (fX12_saySingle_87 σ s0) (fun r => zKeM σ0 (r)) := by
  unfold fX12_saySingle_87
  exact zpc_bu (w_fX12_say h) (fun σ1 hσ1 => zpc_some hσ1)
theorem w_fX12_saySingle_117 {σ0 : zSt} {σ : zSt} {x1 : Int32} {x2 : Int32} {s0 : Nat} (h : zKeM σ0 σ) : zpc (fX12_saySingle_117 σ x1 x2 s0) (fun r => zKeM σ0 (r)) := by
  unfold fX12_saySingle_117
  exact zpc_bu (w_fX12_say h) (fun σ2 hσ2 => zpc_bu (w_fX12_sayR hσ2) (fun σ3 hσ3 => zpc_if (fun _ => zpc_bu (w_fX12_say hσ3) (fun σ4 hσ4 => zpc_bi (w_fX12_taken hσ4) (fun σ5 v6 hσ5 => zpc_bu (w_fX12_hex hσ5) (fun σ7 hσ7 => zpc_some hσ7)))) (fun _ => zpc_some hσ3)))
theorem w_fX12_saySingle {σ0 : zSt} {σ : zSt} {x1 : Int32} {x2 : Int32} (h : zKeM σ0 σ) : zpc (fX12_saySingle σ x1 x2) (fun r => zKeM σ0 (r)) := by
  unfold fX12_saySingle
  exact zpc_if (fun _ => zpc_if (fun _ => w_fX12_saySingle_87 h) (fun _ => zpc_if (fun _ => w_fX12_saySingle_87 h) (fun _ => zpc_if (fun _ => w_fX12_saySingle_87 h) (fun _ => zpc_if (fun _ => w_fX12_saySingle_87 h) (fun _ => zpc_if (fun _ => w_fX12_saySingle_87 h) (fun _ => zpc_if (fun _ => w_fX12_saySingle_87 h) (fun _ => zpc_if (fun _ => w_fX12_saySingle_87 h) (fun _ => w_fX12_saySingle_87 h)))))))) (fun _ => zpc_if (fun _ => w_fX12_saySingle_117 h) (fun _ => zpc_if (fun _ => w_fX12_saySingle_117 h) (fun _ => w_fX12_saySingle_117 h)))
theorem w_fX12_sayThree_266 {σ0 : zSt} {σ : zSt} (h : zKeM σ0 σ) : zpc (fX12_sayThree_266 σ) (fun r => zKeM σ0 (r)) := by
  unfold fX12_sayThree_266
  exact zpc_some h
theorem w_fX12_sayThree_103 {σ0 : zSt} {σ : zSt} {x3 : Int32} (h : zKeM σ0 σ) : zpc (fX12_sayThree_103 σ x3) (fun r => zKeM σ0 (r)) := by
  unfold fX12_sayThree_103
  exact zpc_if (fun _ => zpc_bu (w_fX12_say h) (fun σ1 hσ1 => w_fX12_sayThree_266 hσ1)) (fun _ => w_fX12_sayThree_266 h)
theorem w_fX12_sayThree_91 {σ0 : zSt} {σ : zSt} {x3 : Int32} {s0 : Nat} (h : zKeM σ0 σ) : zpc (fX12_sayThree_91 σ x3 s0) (fun r => zKeM σ0 (r)) := by
  unfold fX12_sayThree_91
  exact zpc_bu (w_fX12_say h) (fun σ2 hσ2 => zpc_if (fun _ => w_fX12_sayThree_103 hσ2) (fun _ => zpc_bu (w_fX12_sayHl hσ2) (fun σ3 hσ3 => w_fX12_sayThree_103 hσ3)))
theorem w_fX12_sayThree_151 {σ0 : zSt} {σ : zSt} (h : zKeM σ0 σ) : zpc (fX12_sayThree_151 σ) (fun r => zKeM σ0 (r)) := by
  unfold fX12_sayThree_151
  exact zpc_bi (w_fX12_takenWord h) (fun σ4 v5 hσ4 => zpc_bu (w_fX12_hex hσ4) (fun σ6 hσ6 => w_fX12_sayThree_266 hσ6))
theorem w_fX12_sayThree_127 {σ0 : zSt} {σ : zSt} {x1 : Int32} {x2 : Int32} (h : zKeM σ0 σ) : zpc (fX12_sayThree_127 σ x1 x2) (fun r => zKeM σ0 (r)) := by
  unfold fX12_sayThree_127
  exact zpc_bu (w_fX12_say h) (fun σ7 hσ7 => zpc_if (fun _ => zpc_bu (w_fX12_sayCc hσ7) (fun σ8 hσ8 => zpc_bu (w_fX12_say hσ8) (fun σ9 hσ9 => w_fX12_sayThree_151 hσ9))) (fun _ => w_fX12_sayThree_151 hσ7))
theorem w_fX12_sayThree_210 {σ0 : zSt} {σ : zSt} {s0 : Nat} (h : zKeM σ0 σ) : zpc (fX12_sayThree_210 σ s0) (fun r => zKeM σ0 (r)) := by
  unfold fX12_sayThree_210
  exact zpc_bu (w_fX12_say h) (fun σ10 hσ10 => w_fX12_sayThree_266 hσ10)
theorem w_fX12_sayThree_183 {σ0 : zSt} {σ : zSt} {x1 : Int32} {s0 : Nat} (h : zKeM σ0 σ) : zpc (fX12_sayThree_183 σ x1 s0) (fun r => zKeM σ0 (r)) := by
  unfold fX12_sayThree_183
  exact zpc_bu (w_fX12_say h) (fun σ11 hσ11 => zpc_bi (w_fX12_taken hσ11) (fun σ12 v13 hσ12 => zpc_bu (w_fX12_hex hσ12) (fun σ14 hσ14 => zpc_if (fun _ => w_fX12_sayThree_210 hσ14) (fun _ => w_fX12_sayThree_210 hσ14))))
theorem w_fX12_sayThree_254 {σ0 : zSt} {σ : zSt} {x1 : Int32} {s0 : Nat} (h : zKeM σ0 σ) : zpc (fX12_sayThree_254 σ x1 s0) (fun r => zKeM σ0 (r)) := by
  unfold fX12_sayThree_254
  exact zpc_bu (w_fX12_say h) (fun σ15 hσ15 => zpc_if (fun _ => zpc_bu (w_fX12_sayHl hσ15) (fun σ16 hσ16 => w_fX12_sayThree_266 hσ16)) (fun _ => w_fX12_sayThree_266 hσ15))
theorem w_fX12_sayThree_50 {σ0 : zSt} {σ : zSt} {x1 : Int32} {x2 : Int32} {x3 : Int32} (h : zKeM σ0 σ) : zpc (fX12_sayThree_50 σ x1 x2 x3) (fun r => zKeM σ0 (r)) := by
  unfold fX12_sayThree_50
  exact zpc_if (fun _ => zpc_if (fun _ => w_fX12_sayThree_91 h) (fun _ => zpc_if (fun _ => w_fX12_sayThree_91 h) (fun _ => zpc_if (fun _ => w_fX12_sayThree_91 h) (fun _ => w_fX12_sayThree_91 h)))) (fun _ => zpc_if (fun _ => w_fX12_sayThree_127 h) (fun _ => zpc_if (fun _ => w_fX12_sayThree_127 h) (fun _ => zpc_if (fun _ => zpc_if (fun _ => w_fX12_sayThree_254 h) (fun _ => zpc_if (fun _ => w_fX12_sayThree_254 h) (fun _ => zpc_if (fun _ => w_fX12_sayThree_254 h) (fun _ => w_fX12_sayThree_254 h)))) (fun _ => zpc_if (fun _ => w_fX12_sayThree_183 h) (fun _ => w_fX12_sayThree_183 h)))))
theorem w_fX12_sayThree {σ0 : zSt} {σ : zSt} {x1 : Int32} {x2 : Int32} (h : zKeM σ0 σ) : zpc (fX12_sayThree σ x1 x2) (fun r => zKeM σ0 (r)) := by
  unfold fX12_sayThree
  exact zpc_bv (fun v17 _ => zpc_if (fun _ => zpc_bu (w_fX12_say h) (fun σ20 hσ20 => zpc_bu (w_fX12_sayCc hσ20) (fun σ21 hσ21 => w_fX12_sayThree_266 hσ21))) (fun _ => zpc_if (fun _ => zpc_ck (zpc_if (fun _ => zpc_bu (w_fX12_say h) (fun σ18 hσ18 => zpc_bu (w_fX12_sayRp hσ18) (fun σ19 hσ19 => w_fX12_sayThree_266 hσ19))) (fun _ => w_fX12_sayThree_50 h))) (fun _ => w_fX12_sayThree_50 h)))
theorem w_fX12_sayLast_115 {σ0 : zSt} {σ : zSt} (h : zKeM σ0 σ) : zpc (fX12_sayLast_115 σ) (fun r => zKeM σ0 (r)) := by
  unfold fX12_sayLast_115
  exact zpc_some h
theorem w_fX12_sayLast_43 {σ0 : zSt} {σ : zSt} (h : zKeM σ0 σ) : zpc (fX12_sayLast_43 σ) (fun r => zKeM σ0 (r)) := by
  unfold fX12_sayLast_43
  exact zpc_bi (w_fX12_takenWord h) (fun σ1 v2 hσ1 => zpc_bu (w_fX12_hex hσ1) (fun σ3 hσ3 => w_fX12_sayLast_115 hσ3))
theorem w_fX12_sayLast_19 {σ0 : zSt} {σ : zSt} {x1 : Int32} {x2 : Int32} (h : zKeM σ0 σ) : zpc (fX12_sayLast_19 σ x1 x2) (fun r => zKeM σ0 (r)) := by
  unfold fX12_sayLast_19
  exact zpc_bu (w_fX12_say h) (fun σ4 hσ4 => zpc_if (fun _ => zpc_bu (w_fX12_sayCc hσ4) (fun σ5 hσ5 => zpc_bu (w_fX12_say hσ5) (fun σ6 hσ6 => w_fX12_sayLast_43 hσ6))) (fun _ => w_fX12_sayLast_43 hσ4))
theorem w_fX12_sayLast_55 {σ0 : zSt} {σ : zSt} {x1 : Int32} {x2 : Int32} {x3 : Int32} (h : zKeM σ0 σ) : zpc (fX12_sayLast_55 σ x1 x2 x3) (fun r => zKeM σ0 (r)) := by
  unfold fX12_sayLast_55
  exact zpc_if (fun _ => zpc_bu (w_fX12_say h) (fun σ13 hσ13 => zpc_bu (w_fX12_sayRp hσ13) (fun σ14 hσ14 => w_fX12_sayLast_115 hσ14))) (fun _ => zpc_if (fun _ => zpc_bu (w_fX12_sayDo h) (fun σ9 hσ9 => zpc_bi (w_fX12_taken hσ9) (fun σ10 v11 hσ10 => zpc_bu (w_fX12_hex hσ10) (fun σ12 hσ12 => w_fX12_sayLast_115 hσ12)))) (fun _ => zpc_bu (w_fX12_say h) (fun σ7 hσ7 => zpc_bu (w_fX12_hex hσ7) (fun σ8 hσ8 => w_fX12_sayLast_115 hσ8))))
theorem w_fX12_sayLast {σ0 : zSt} {σ : zSt} {x1 : Int32} {x2 : Int32} (h : zKeM σ0 σ) : zpc (fX12_sayLast σ x1 x2) (fun r => zKeM σ0 (r)) := by
  unfold fX12_sayLast
  exact zpc_bv (fun v15 _ => zpc_if (fun _ => w_fX12_sayLast_19 h) (fun _ => zpc_if (fun _ => zpc_if (fun _ => w_fX12_sayLast_19 h) (fun _ => w_fX12_sayLast_55 h)) (fun _ => w_fX12_sayLast_55 h)))
theorem w_fX12_sayPlain_137 {σ0 : zSt} {σ : zSt} (h : zKeM σ0 σ) : zpc (fX12_sayPlain_137 σ) (fun r => zKeM σ0 (r)) := by
  unfold fX12_sayPlain_137
  exact zpc_some h
theorem w_fX12_sayPlain_32 {σ0 : zSt} {σ : zSt} {x1 : Int32} {x2 : Int32} {x3 : Int32} (h : zKeM σ0 σ) : zpc (fX12_sayPlain_32 σ x1 x2 x3) (fun r => zKeM σ0 (r)) := by
  unfold fX12_sayPlain_32
  exact zpc_if (fun _ => zpc_if (fun _ => zpc_bu (w_fX12_say h) (fun σ9 hσ9 => w_fX12_sayPlain_137 hσ9)) (fun _ => zpc_if (fun _ => zpc_if (fun _ => zpc_if (fun _ => zpc_bu (w_fX12_sayLast h) (fun σ1 hσ1 => w_fX12_sayPlain_137 hσ1)) (fun _ => zpc_bu (w_fX12_sayThree h) (fun σ2 hσ2 => w_fX12_sayPlain_137 hσ2))) (fun _ => zpc_bu (w_fX12_sayDo h) (fun σ3 hσ3 => zpc_bu (w_fX12_sayR hσ3) (fun σ4 hσ4 => w_fX12_sayPlain_137 hσ4)))) (fun _ => zpc_bu (w_fX12_say h) (fun σ5 hσ5 => zpc_bu (w_fX12_sayR hσ5) (fun σ6 hσ6 => zpc_bu (w_fX12_say hσ6) (fun σ7 hσ7 => zpc_bu (w_fX12_sayR hσ7) (fun σ8 hσ8 => w_fX12_sayPlain_137 hσ8))))))) (fun _ => zpc_bu (w_fX12_saySingle h) (fun σ10 hσ10 => w_fX12_sayPlain_137 hσ10))
theorem w_fX12_sayPlain {σ0 : zSt} {σ : zSt} {x1 : Int32} (h : zKeM σ0 σ) : zpc (fX12_sayPlain σ x1) (fun r => zKeM σ0 (r)) := by
  unfold fX12_sayPlain
  exact zpc_bv (fun v11 _ => zpc_bv (fun v12 _ => zpc_if (fun _ => w_fX12_sayPlain_32 h) (fun _ => zpc_if (fun _ => w_fX12_sayPlain_32 h) (fun _ => zpc_bu (w_fX12_sayZero h) (fun σ13 hσ13 => w_fX12_sayPlain_137 hσ13)))))
theorem w_fX12_sayPrefixed_30 {σ0 : zSt} {σ : zSt} (h : zKeM σ0 σ) : zpc (fX12_sayPrefixed_30 σ) (fun r => zKeM σ0 (r)) := by
  unfold fX12_sayPrefixed_30
  exact zpc_bu (w_fX12_say h) (fun σ1 hσ1 => zpc_some hσ1)
theorem w_fX12_sayPrefixed_133 {σ0 : zSt} {σ : zSt} (h : zKeM σ0 σ) : zpc (fX12_sayPrefixed_133 σ) (fun r => zKeM σ0 (r)) := by
  unfold fX12_sayPrefixed_133
  exact zpc_some h
theorem w_fX12_sayPrefixed_240 {σ0 : zSt} {σ : zSt} {x2 : Int32} (h : zKeM σ0 σ) : zpc (fX12_sayPrefixed_240 σ x2) (fun r => zKeM σ0 (r)) := by
  unfold fX12_sayPrefixed_240
  exact zpc_bu (w_fX12_sayPlain h) (fun σ2 hσ2 => zpc_some hσ2)
theorem w_fX12_sayPrefixed_219 {σ0 : zSt} {σ : zSt} {x2 : Int32} {s0 : Int32} (h : zKeM σ0 σ) : zpc (fX12_sayPrefixed_219 σ x2 s0) (fun r => zKeM σ0 (r)) := by
  unfold fX12_sayPrefixed_219
  exact zpc_ck (zpc_bs (zKeM.w0 h (by decide)) (fun σ3 hσ3 => zpc_if (fun _ => w_fX12_sayPrefixed_240 hσ3) (fun _ => zpc_bi (w_fX12_taken hσ3) (fun σ4 v5 hσ4 => zpc_bi (w_fX12_signed hσ4) (fun σ6 v7 hσ6 => zpc_bs (zKeM.w0 hσ6 (by decide)) (fun σ8 hσ8 => w_fX12_sayPrefixed_240 hσ8))))))
theorem w_fX12_sayPrefixed_218 {σ0 : zSt} {σ : zSt} {x2 : Int32} (h : zKeM σ0 σ) : zpc (fX12_sayPrefixed_218 σ x2) (fun r => zKeM σ0 (r)) := by
  unfold fX12_sayPrefixed_218
  exact w_fX12_sayPrefixed_219 h
theorem w_fX12_sayPrefixed_214 {σ0 : zSt} {σ : zSt} {x2 : Int32} (h : zKeM σ0 σ) : zpc (fX12_sayPrefixed_214 σ x2) (fun r => zKeM σ0 (r)) := by
  unfold fX12_sayPrefixed_214
  exact w_fX12_sayPrefixed_219 h
theorem w_fX12_sayPrefixed_201 {σ0 : zSt} {σ : zSt} {x2 : Int32} {x4 : Int32} {x5 : Int32} (h : zKeM σ0 σ) : zpc (fX12_sayPrefixed_201 σ x2 x4 x5) (fun r => zKeM σ0 (r)) := by
  unfold fX12_sayPrefixed_201
  exact zpc_if (fun _ => zpc_if (fun _ => w_fX12_sayPrefixed_214 h) (fun _ => w_fX12_sayPrefixed_218 h)) (fun _ => w_fX12_sayPrefixed_218 h)
theorem w_fX12_sayPrefixed_195 {σ0 : zSt} {σ : zSt} {x2 : Int32} {x4 : Int32} {x5 : Int32} (h : zKeM σ0 σ) : zpc (fX12_sayPrefixed_195 σ x2 x4 x5) (fun r => zKeM σ0 (r)) := by
  unfold fX12_sayPrefixed_195
  exact zpc_if (fun _ => w_fX12_sayPrefixed_201 h) (fun _ => w_fX12_sayPrefixed_214 h)
theorem w_fX12_sayPrefixed_176 {σ0 : zSt} {σ : zSt} {x2 : Int32} {x3 : Int32} {x4 : Int32} {x5 : Int32} (h : zKeM σ0 σ) : zpc (fX12_sayPrefixed_176 σ x2 x3 x4 x5) (fun r => zKeM σ0 (r)) := by
  unfold fX12_sayPrefixed_176
  exact zpc_if (fun _ => zpc_if (fun _ => w_fX12_sayPrefixed_195 h) (fun _ => zpc_if (fun _ => w_fX12_sayPrefixed_195 h) (fun _ => w_fX12_sayPrefixed_201 h))) (fun _ => w_fX12_sayPrefixed_201 h)
theorem w_fX12_sayPrefixed {σ0 : zSt} {σ : zSt} {x1 : Int32} (h : zKeM σ0 σ) : zpc (fX12_sayPrefixed σ x1) (fun r => zKeM σ0 (r)) := by
  unfold fX12_sayPrefixed
  exact zpc_bi (w_fX12_read h) (fun σ9 v10 hσ9 => zpc_if (fun _ => w_fX12_sayPrefixed_30 hσ9) (fun _ => zpc_if (fun _ => w_fX12_sayPrefixed_30 hσ9) (fun _ => zpc_if (fun _ => w_fX12_sayPrefixed_30 hσ9) (fun _ => zpc_bs (zKeM.w0 hσ9 (by decide)) (fun σ11 hσ11 => zpc_bs (zKeM.w0 hσ11 (by decide)) (fun σ12 hσ12 => zpc_bv (fun v13 _ => zpc_bv (fun v14 _ => zpc_bv (fun v15 _ => zpc_if (fun _ => zpc_bi (w_fX12_taken hσ12) (fun σ16 v17 hσ16 => zpc_bi (w_fX12_signed hσ16) (fun σ18 v19 hσ18 => zpc_bs (zKeM.w0 hσ18 (by decide)) (fun σ20 hσ20 => zpc_ck (zpc_bs (zKeM.w0 hσ20 (by decide)) (fun σ21 hσ21 => zpc_bi (w_fX12_taken hσ21) (fun σ22 v23 hσ22 => zpc_bu (w_fX12_sayTurn hσ22) (fun σ24 hσ24 => zpc_if (fun _ => w_fX12_sayPrefixed_133 hσ24) (fun _ => zpc_ck (zpc_if (fun _ => w_fX12_sayPrefixed_133 hσ24) (fun _ => zpc_bu (w_fX12_say hσ24) (fun σ25 hσ25 => zpc_ck (zpc_bu (w_fX12_sayR hσ25) (fun σ26 hσ26 => zpc_some hσ26)))))))))))))) (fun _ => zpc_if (fun _ => zpc_if (fun _ => w_fX12_sayPrefixed_176 hσ12) (fun _ => zpc_if (fun _ => w_fX12_sayPrefixed_176 hσ12) (fun _ => zpc_if (fun _ => w_fX12_sayPrefixed_214 hσ12) (fun _ => w_fX12_sayPrefixed_176 hσ12)))) (fun _ => w_fX12_sayPrefixed_176 hσ12)))))))))))
theorem w_fX12_sayOdd_155 {σ0 : zSt} {σ : zSt} (h : zKeM σ0 σ) : zpc (fX12_sayOdd_155 σ) (fun r => zKeM σ0 (r)) := by
  unfold fX12_sayOdd_155
  exact zpc_some h
theorem w_fX12_sayOdd_35 {σ0 : zSt} {σ : zSt} {s0 : Nat} (h : zKeM σ0 σ) : zpc (fX12_sayOdd_35 σ s0) (fun r => zKeM σ0 (r)) := by
  unfold fX12_sayOdd_35
  exact zpc_bu (w_fX12_say h) (fun σ1 hσ1 => w_fX12_sayOdd_155 hσ1)
theorem w_fX12_sayOdd_77 {σ0 : zSt} {σ : zSt} {s0 : Nat} (h : zKeM σ0 σ) : zpc (fX12_sayOdd_77 σ s0) (fun r => zKeM σ0 (r)) := by
  unfold fX12_sayOdd_77
  exact zpc_bu (w_fX12_say h) (fun σ2 hσ2 => w_fX12_sayOdd_155 hσ2)
theorem w_fX12_sayOdd_152 {σ0 : zSt} {σ : zSt} {s0 : Nat} (h : zKeM σ0 σ) : zpc (fX12_sayOdd_152 σ s0) (fun r => zKeM σ0 (r)) := by
  unfold fX12_sayOdd_152
  exact zpc_bu (w_fX12_say h) (fun σ3 hσ3 => w_fX12_sayOdd_155 hσ3)
theorem w_fX12_sayOdd {σ0 : zSt} {σ : zSt} {x1 : Int32} {x2 : Int32} (h : zKeM σ0 σ) : zpc (fX12_sayOdd σ x1 x2) (fun r => zKeM σ0 (r)) := by
  unfold fX12_sayOdd
  exact zpc_if (fun _ => zpc_bu (w_fX12_say h) (fun σ4 hσ4 => w_fX12_sayOdd_155 hσ4)) (fun _ => zpc_if (fun _ => zpc_if (fun _ => w_fX12_sayOdd_35 h) (fun _ => w_fX12_sayOdd_35 h)) (fun _ => zpc_if (fun _ => zpc_ck (zpc_if (fun _ => zpc_ck (zpc_if (fun _ => w_fX12_sayOdd_77 h) (fun _ => w_fX12_sayOdd_77 h))) (fun _ => w_fX12_sayOdd_77 h))) (fun _ => zpc_if (fun _ => w_fX12_sayOdd_152 h) (fun _ => zpc_if (fun _ => w_fX12_sayOdd_152 h) (fun _ => zpc_if (fun _ => w_fX12_sayOdd_152 h) (fun _ => zpc_if (fun _ => w_fX12_sayOdd_152 h) (fun _ => zpc_if (fun _ => w_fX12_sayOdd_152 h) (fun _ => zpc_if (fun _ => w_fX12_sayOdd_152 h) (fun _ => w_fX12_sayOdd_152 h)))))))))
theorem w_fX12_sayMore_325 {σ0 : zSt} {σ : zSt} (h : zKeM σ0 σ) : zpc (fX12_sayMore_325 σ) (fun r => zKeM σ0 (r)) := by
  unfold fX12_sayMore_325
  exact zpc_some h
theorem w_fX12_sayMore_164 {σ0 : zSt} {σ : zSt} (h : zKeM σ0 σ) : zpc (fX12_sayMore_164 σ) (fun r => zKeM σ0 (r)) := by
  unfold fX12_sayMore_164
  exact zpc_bu (w_fX12_say h) (fun σ1 hσ1 => w_fX12_sayMore_325 hσ1)
theorem w_fX12_sayMore_231 {σ0 : zSt} {σ : zSt} {x2 : Int32} {s0 : Nat} (h : zKeM σ0 σ) : zpc (fX12_sayMore_231 σ x2 s0) (fun r => zKeM σ0 (r)) := by
  unfold fX12_sayMore_231
  exact zpc_bu (w_fX12_say h) (fun σ2 hσ2 => zpc_bu (w_fX12_sayRp hσ2) (fun σ3 hσ3 => w_fX12_sayMore_325 hσ3))
theorem w_fX12_sayMore_316 {σ0 : zSt} {σ : zSt} (h : zKeM σ0 σ) : zpc (fX12_sayMore_316 σ) (fun r => zKeM σ0 (r)) := by
  unfold fX12_sayMore_316
  exact w_fX12_sayMore_325 h
theorem w_fX12_sayMore_286 {σ0 : zSt} {σ : zSt} {x2 : Int32} {x5 : Int32} (h : zKeM σ0 σ) : zpc (fX12_sayMore_286 σ x2 x5) (fun r => zKeM σ0 (r)) := by
  unfold fX12_sayMore_286
  exact zpc_bu (w_fX12_say h) (fun σ4 hσ4 => zpc_ck (zpc_if (fun _ => zpc_bu (w_fX12_sayRp hσ4) (fun σ6 hσ6 => w_fX12_sayMore_316 hσ6)) (fun _ => zpc_bu (w_fX12_sayPlaced hσ4) (fun σ5 hσ5 => w_fX12_sayMore_316 hσ5))))
theorem w_fX12_sayMore_119 {σ0 : zSt} {σ : zSt} {x2 : Int32} {x3 : Int32} {x4 : Int32} (h : zKeM σ0 σ) : zpc (fX12_sayMore_119 σ x2 x3 x4) (fun r => zKeM σ0 (r)) := by
  unfold fX12_sayMore_119
  exact zpc_if (fun _ => zpc_if (fun _ => zpc_bu (w_fX12_say h) (fun σ16 hσ16 => zpc_if (fun _ => w_fX12_sayMore_164 hσ16) (fun _ => zpc_bu (w_fX12_sayR hσ16) (fun σ17 hσ17 => zpc_bu (w_fX12_say hσ17) (fun σ18 hσ18 => w_fX12_sayMore_164 hσ18))))) (fun _ => zpc_if (fun _ => zpc_bu (w_fX12_say h) (fun σ13 hσ13 => zpc_if (fun _ => zpc_bu (w_fX12_say hσ13) (fun σ15 hσ15 => w_fX12_sayMore_325 hσ15)) (fun _ => zpc_bu (w_fX12_sayR hσ13) (fun σ14 hσ14 => w_fX12_sayMore_325 hσ14)))) (fun _ => zpc_if (fun _ => zpc_ck (zpc_if (fun _ => w_fX12_sayMore_231 h) (fun _ => w_fX12_sayMore_231 h))) (fun _ => zpc_if (fun _ => zpc_bu (w_fX12_say h) (fun σ8 hσ8 => zpc_bi (w_fX12_takenWord hσ8) (fun σ9 v10 hσ9 => zpc_ck (zpc_if (fun _ => zpc_bu (w_fX12_sayPlaced hσ9) (fun σ12 hσ12 => w_fX12_sayMore_286 hσ12)) (fun _ => zpc_bu (w_fX12_sayRp hσ9) (fun σ11 hσ11 => w_fX12_sayMore_286 hσ11)))))) (fun _ => zpc_bu (w_fX12_sayOdd h) (fun σ7 hσ7 => w_fX12_sayMore_325 hσ7)))))) (fun _ => zpc_bu (w_fX12_say h) (fun σ19 hσ19 => w_fX12_sayMore_325 hσ19))
theorem w_fX12_sayMore_101 {σ0 : zSt} {σ : zSt} {x2 : Int32} {s0 : Nat} (h : zKeM σ0 σ) : zpc (fX12_sayMore_101 σ x2 s0) (fun r => zKeM σ0 (r)) := by
  unfold fX12_sayMore_101
  exact zpc_bu (w_fX12_say h) (fun σ20 hσ20 => zpc_if (fun _ => w_fX12_sayMore_325 hσ20) (fun _ => zpc_bu (w_fX12_say hσ20) (fun σ21 hσ21 => w_fX12_sayMore_325 hσ21)))
theorem w_fX12_sayMore_82 {σ0 : zSt} {σ : zSt} {x2 : Int32} {s0 : Nat} (h : zKeM σ0 σ) : zpc (fX12_sayMore_82 σ x2 s0) (fun r => zKeM σ0 (r)) := by
  unfold fX12_sayMore_82
  exact zpc_bu (w_fX12_say h) (fun σ22 hσ22 => zpc_ck (zpc_if (fun _ => w_fX12_sayMore_101 hσ22) (fun _ => w_fX12_sayMore_101 hσ22)))
theorem w_fX12_sayMore {σ0 : zSt} {σ : zSt} {x1 : Int32} (h : zKeM σ0 σ) : zpc (fX12_sayMore σ x1) (fun r => zKeM σ0 (r)) := by
  unfold fX12_sayMore
  exact zpc_bv (fun v23 _ => zpc_bv (fun v24 _ => zpc_bv (fun v25 _ => zpc_if (fun _ => zpc_if (fun _ => w_fX12_sayMore_119 h) (fun _ => zpc_if (fun _ => w_fX12_sayMore_119 h) (fun _ => zpc_if (fun _ => w_fX12_sayMore_82 h) (fun _ => zpc_if (fun _ => w_fX12_sayMore_82 h) (fun _ => zpc_if (fun _ => w_fX12_sayMore_82 h) (fun _ => zpc_if (fun _ => w_fX12_sayMore_82 h) (fun _ => w_fX12_sayMore_82 h))))))) (fun _ => w_fX12_sayMore_119 h))))
theorem w_fX12_tell_112 {σ0 : zSt} {σ : zSt} {x2 : Int32} (h : zKeM σ0 σ) : zpc (fX12_tell_112 σ x2) (fun r => zKeM σ0 (r.1)) := by
  unfold fX12_tell_112
  exact zpc_some h
theorem w_fX12_tell_65 {σ0 : zSt} {σ : zSt} {x2 : Int32} {s0 : Int32} (h : zKeM σ0 σ) : zpc (fX12_tell_65 σ x2 s0) (fun r => zKeM σ0 (r.1)) := by
  unfold fX12_tell_65
  exact zpc_bu (w_fX12_sayPrefixed h) (fun σ1 hσ1 => w_fX12_tell_112 hσ1)
theorem w_fX12_tell_52 {σ0 : zSt} {σ : zSt} {x2 : Int32} {x3 : Int32} (h : zKeM σ0 σ) : zpc (fX12_tell_52 σ x2 x3) (fun r => zKeM σ0 (r.1)) := by
  unfold fX12_tell_52
  exact zpc_if (fun _ => w_fX12_tell_65 h) (fun _ => w_fX12_tell_65 h)
theorem w_fX12_tell {σ0 : zSt} {σ : zSt} {x1 : Int32} (h : zKeM σ0 σ) : zpc (fX12_tell σ x1) (fun r => zKeM σ0 (r.1)) := by
  unfold fX12_tell
  exact zpc_bs (zKeM.w0 h (by decide)) (fun σ2 hσ2 => zpc_bs (zKeM.w0 hσ2 (by decide)) (fun σ3 hσ3 => zpc_bs (zKeM.w0 hσ3 (by decide)) (fun σ4 hσ4 => zpc_bs (zKeM.w0 hσ4 (by decide)) (fun σ5 hσ5 => zpc_ck (zpc_bs (zKeM.w0 hσ5 (by decide)) (fun σ6 hσ6 => zpc_bv (fun v7 _ => zpc_bi (w_fX12_taken hσ6) (fun σ8 v9 hσ8 => zpc_if (fun _ => w_fX12_tell_52 hσ8) (fun _ => zpc_if (fun _ => w_fX12_tell_52 hσ8) (fun _ => zpc_if (fun _ => zpc_bi (w_fX12_taken hσ8) (fun σ14 v15 hσ14 => zpc_bu (w_fX12_sayTurn hσ14) (fun σ16 hσ16 => w_fX12_tell_112 hσ16))) (fun _ => zpc_if (fun _ => zpc_bi (w_fX12_taken hσ8) (fun σ11 v12 hσ11 => zpc_bu (w_fX12_sayMore hσ11) (fun σ13 hσ13 => w_fX12_tell_112 hσ13))) (fun _ => zpc_bu (w_fX12_sayPlain hσ8) (fun σ10 hσ10 => w_fX12_tell_112 hσ10)))))))))))))
theorem w_fX12_text_70 {σ0 : zSt} {k37 : zSt → Int32 → Int64 → Int32 → Option (zSt × Int64)} (hk37 : ∀ (y0 : zSt) (y1 : Int32) (y2 : Int64) (y3 : Int32), zKeM σ0 y0 → zpc (k37 y0 y1 y2 y3) (fun r => zKeM σ0 (r.1))) {σ : zSt} {x1 : Int32} {x4 : Int32} {s0 : Int32} {s1 : Int64} (h : zKeM σ0 σ) : zpc (fX12_text_70 k37 σ x1 x4 s0 s1) (fun r => zKeM σ0 (r.1)) := by
  unfold fX12_text_70
  exact zpc_bv (fun v1 _ => zpc_bv (fun v2 _ => hk37 _ _ _ _ h))
theorem w_fX12_text_37_body {σ0 : zSt} {k37 : zSt → Int32 → Int64 → Int32 → Option (zSt × Int64)} (hk37 : ∀ (y0 : zSt) (y1 : Int32) (y2 : Int64) (y3 : Int32), zKeM σ0 y0 → zpc (k37 y0 y1 y2 y3) (fun r => zKeM σ0 (r.1))) {σ : zSt} {x1 : Int32} {x2 : Int64} {x4 : Int32} (h : zKeM σ0 σ) : zpc (fX12_text_37_body k37 σ x1 x2 x4) (fun r => zKeM σ0 (r.1)) := by
  unfold fX12_text_37_body
  exact zpc_if (fun _ => zpc_some h) (fun _ => zpc_if (fun _ => w_fX12_text_70 hk37 h) (fun _ => zpc_ck (w_fX12_text_70 hk37 h)))
theorem w_fX12_text_37 {σ0 : zSt} : ∀ (n : Nat) (y0 : zSt) (y1 : Int32) (y2 : Int64) (y3 : Int32), zKeM σ0 y0 → zpc (fX12_text_37 n y0 y1 y2 y3) (fun r => zKeM σ0 (r.1)) := by
  intro n
  induction n with
  | zero => intro y0 y1 y2 y3 h; exact zpc_none
  | succ n ih => intro y0 y1 y2 y3 h; exact w_fX12_text_37_body ih h
theorem w_fX12_text_22 {σ0 : zSt} {σ : zSt} {x1 : Int32} {s0 : Int32} (h : zKeM σ0 σ) : zpc (fX12_text_22 σ x1 s0) (fun r => zKeM σ0 (r.1)) := by
  unfold fX12_text_22
  exact zpc_bi (w_fX12_fails h) (fun σ3 v4 hσ3 => zpc_if (fun _ => w_fX12_text_37 _ _ _ _ _ hσ3) (fun _ => zpc_some hσ3))
theorem w_fX12_text {σ0 : zSt} {σ : zSt} {x1 : Int32} (h : zKeM σ0 σ) : zpc (fX12_text σ x1) (fun r => zKeM σ0 (r.1)) := by
  unfold fX12_text
  exact zpc_bi (w_fX12_within h) (fun σ5 v6 hσ5 => zpc_if (fun _ => w_fX12_text_22 hσ5) (fun _ => w_fX12_text_22 hσ5))
end ZJN0
section ZJN1
/-! bytes -/
theorem z_255 {i : Nat} (h : 8 ≤ i) : (255#32).getLsbD i = false := by
  by_cases hi : i < 32
  · have k : ∀ j : Fin 32, 8 ≤ j.val → (255#32).getLsbD j.val = false := by decide
    exact k ⟨i, hi⟩ h
  · exact BitVec.getLsbD_of_ge _ _ (by omega)
theorem z_and255 {x y : Int32} (h : ∀ i, i < 8 → x.toBitVec.getLsbD i = y.toBitVec.getLsbD i) : x &&& 255 = y &&& 255 := by
  refine Int32.toBitVec_inj.1 (BitVec.eq_of_getLsbD_eq (fun i hi => ?_))
  rw [Int32.toBitVec_and, Int32.toBitVec_and, BitVec.getLsbD_and, BitVec.getLsbD_and]
  by_cases q : i < 8
  · rw [h i q]
  · rw [show (255 : Int32).toBitVec = 255#32 from rfl, z_255 (by omega), Bool.and_false, Bool.and_false]
theorem z_nar {x : Int32} : vp_nar .byte x &&& 255 = x &&& 255 := by
  refine z_and255 (fun i hi => ?_)
  have e : (vp_nar .byte x).toBitVec = (x.toBitVec.signExtend 8).signExtend 32 := rfl
  rw [e, BitVec.getLsbD_signExtend, if_pos hi, decide_eq_true (show i < 32 by omega), Bool.true_and, BitVec.getLsbD_signExtend, if_pos (show i < 32 by omega), decide_eq_true hi, Bool.true_and]
theorem z_i8 {x : Int32} : x.toInt8.toInt32 &&& 255 = x &&& 255 := z_nar (x := x)
theorem z_sh1 : ∀ i : Fin 8, (((8 * Int32.ofNat i.val).toInt64 &&& 63).toBitVec.smod 64).toNat = 8 * i.val := by decide +kernel
theorem z_sh2 : ∀ i : Fin 8, (UInt64.mod ((8 * Int32.ofNat i.val).toInt64.toUInt64 &&& Int64.toUInt64 63) 64).toBitVec.toNat = 8 * i.val := by decide +kernel
theorem z_shb {s : Int64} {i : Nat} (hi : i < 8) : (zlshr s (8 * Int32.ofNat i)).toInt32 &&& 255 = (zlushr s (8 * Int32.ofNat i)).toInt32 &&& 255 := by
  refine z_and255 (fun j hj => ?_)
  have s1 : (((8 * Int32.ofNat i).toInt64 &&& 63).toBitVec.smod 64).toNat = 8 * i := z_sh1 ⟨i, hi⟩
  have s2 : (UInt64.mod ((8 * Int32.ofNat i).toInt64.toUInt64 &&& Int64.toUInt64 63) 64).toBitVec.toNat = 8 * i := z_sh2 ⟨i, hi⟩
  have e1 : (zlshr s (8 * Int32.ofNat i)).toInt32.toBitVec = (s.toBitVec.sshiftRight (((8 * Int32.ofNat i).toInt64 &&& 63).toBitVec.smod 64).toNat).signExtend 32 := rfl
  have e2 : (zlushr s (8 * Int32.ofNat i)).toInt32.toBitVec = (s.toBitVec >>> (UInt64.mod ((8 * Int32.ofNat i).toInt64.toUInt64 &&& Int64.toUInt64 63) 64).toBitVec.toNat).signExtend 32 := rfl
  rw [e1, e2, s1, s2]
  simp only [BitVec.getLsbD_signExtend, BitVec.getLsbD_sshiftRight, BitVec.getLsbD_ushiftRight, if_pos (show j < 64 by omega), if_pos (show 8 * i + j < 64 by omega), decide_eq_false (show ¬ 64 ≤ j by omega), Bool.not_false, Bool.true_and]
theorem z_x24 : ∀ i : Fin 24, zrem (Int32.ofNat i.val) 8 = Int32.ofNat (i.val % 8) ∧ Int32.ofNat i.val &&& 7 = Int32.ofNat (i.val % 8) := by decide +kernel
theorem z_ofN {x : Int32} {i : Nat} (h : x.toInt = i) : x = Int32.ofNat i := by
  have l := Int32.toInt_lt x
  exact Int32.toInt_inj.mp (by rw [Int32.toInt_ofNat_of_lt (by omega), h])
/-- the byte that feed lays, on both sides -/
theorem z_feedb {s : Int64} {x : Int32} (h : zr 0 23 x) : ((zlushr s (8 * (x &&& 7))).toInt32) &&& 255 = vp_nar .byte (((zlshr s (8 * (zrem x 8))).toInt32).toInt8.toInt32) &&& 255 := by
  obtain ⟨h1, h2⟩ := h
  obtain ⟨i, hi⟩ : ∃ i : Nat, x.toInt = i := ⟨x.toInt.toNat, by omega⟩
  have e := z_ofN hi
  have k1 : zrem (Int32.ofNat i) 8 = Int32.ofNat (i % 8) := (z_x24 ⟨i, by omega⟩).1
  have k2 : Int32.ofNat i &&& 7 = Int32.ofNat (i % 8) := (z_x24 ⟨i, by omega⟩).2
  rw [z_nar, z_i8, e, k1, k2]
  exact (z_shb (by omega)).symm
theorem z_patchb {s : Int64} {x : Int32} (h : zr 0 7 x) : ((zlushr s (8 * x)).toInt32) &&& 255 = vp_nar .byte (((zlshr s (8 * x)).toInt32).toInt8.toInt32) &&& 255 := by
  obtain ⟨h1, h2⟩ := h
  obtain ⟨i, hi⟩ : ∃ i : Nat, x.toInt = i := ⟨x.toInt.toNat, by omega⟩
  have e := z_ofN hi
  rw [z_nar, z_i8, e]
  exact (z_shb (by omega)).symm
/-! two computations side by side -/
def zp2 {α β : Type} (o : Option α) (p : Option β) (Q : α → β → Prop) : Prop := ∀ a b, o = some a → p = some b → Q a b
theorem zp2_nl {α β : Type} {p : Option β} {Q : α → β → Prop} : zp2 (none : Option α) p Q := fun a b e _ => by cases e
theorem zp2_nr {α β : Type} {o : Option α} {Q : α → β → Prop} : zp2 o (none : Option β) Q := fun a b _ e => by cases e
theorem zp2_some {α β : Type} {a : α} {b : β} {Q : α → β → Prop} (h : Q a b) : zp2 (some a) (some b) Q := fun x y e f => by cases e; cases f; exact h
theorem zp2_ckl {α β : Type} {c : Bool} {o : Option α} {p : Option β} {Q : α → β → Prop} (h : zp2 o p Q) : zp2 (zck c o) p Q := by
  cases c
  · exact zp2_nl
  · exact h
theorem zp2_ckr {α β : Type} {c : Bool} {o : Option α} {p : Option β} {Q : α → β → Prop} (h : zp2 o p Q) : zp2 o (zck c p) Q := by
  cases c
  · exact zp2_nr
  · exact h
theorem zp2_ifl {α β : Type} {c : Prop} {d : Decidable c} {x y : Option α} {p : Option β} {Q : α → β → Prop} (h1 : c → zp2 x p Q) (h2 : ¬ c → zp2 y p Q) : zp2 (@ite _ c d x y) p Q := by
  by_cases q : c
  · rw [if_pos q]; exact h1 q
  · rw [if_neg q]; exact h2 q
theorem zp2_ifr {α β : Type} {c : Prop} {d : Decidable c} {o : Option α} {x y : Option β} {Q : α → β → Prop} (h1 : c → zp2 o x Q) (h2 : ¬ c → zp2 o y Q) : zp2 o (@ite _ c d x y) Q := by
  by_cases q : c
  · rw [if_pos q]; exact h1 q
  · rw [if_neg q]; exact h2 q
/-- both ask the same -/
theorem zp2_if {α β : Type} {c : Prop} {d d' : Decidable c} {x y : Option α} {x' y' : Option β} {Q : α → β → Prop} (h1 : c → zp2 x x' Q) (h2 : ¬ c → zp2 y y' Q) : zp2 (@ite _ c d x y) (@ite _ c d' x' y') Q := zp2_ifl (fun q => zp2_ifr (fun _ => h1 q) (fun r => absurd q r)) (fun q => zp2_ifr (fun r => absurd r q) (fun _ => h2 q))
theorem zp2_bvl {α β γ : Type} {x : γ} {f : γ → Option α} {p : Option β} {Q : α → β → Prop} (h : ∀ y, y = x → zp2 (f y) p Q) : zp2 (zbv x f) p Q := h x rfl
theorem zp2_bvr {α β γ : Type} {x : γ} {o : Option α} {f : γ → Option β} {Q : α → β → Prop} (h : ∀ y, y = x → zp2 o (f y) Q) : zp2 o (zbv x f) Q := h x rfl
theorem zp2_bul {α β : Type} {o : Option zSt} {f : zSt → Option α} {p : Option β} {P : zSt → Prop} {Q : α → β → Prop} (h : zpc o P) (k : ∀ σ, P σ → zp2 (f σ) p Q) : zp2 (zbu o f) p Q := by
  cases o with
  | none => exact zp2_nl
  | some a => exact k a (h a rfl)
theorem zp2_of {α β : Type} {o : Option α} {p : Option β} {P : α → Prop} {P' : β → Prop} {Q : α → β → Prop} (h : zpc o P) (h' : zpc p P') (k : ∀ a b, P a → P' b → Q a b) : zp2 o p Q := fun a b e f => k a b (h a e) (h' b f)
/-! tape and cartridge of both sides -/
def zSm (b : Nat → Int32) : Nat → Nat → Int32 → Int32
  | 0, _, a => a
  | n + 1, i, a => zSm b n (i + 1) (a + b i)
/-- the sum over a cartridge's bytes: size, header, bytes -/
def zSum (z h : Int32) (b : Nat → Int32) : Int32 := (if 13 < b (h.toNatClampNeg + 15) &&& 15 then zSm b (z.toNatClampNeg - 32768) 32768 (zSm b h.toNatClampNeg 0 0) else if 3 ≤ b (h.toNatClampNeg + 15) &&& 15 then zSm b h.toNatClampNeg 0 0 else zSm b (z.toNatClampNeg - 32768) 32768 (zSm b h.toNatClampNeg 0 0)) &&& 65535
def zCart (σ μ : zSt) : Prop := σ.1 1 4 = μ.1 0 5 ∧ σ.1 1 5 = μ.1 0 6 ∧ σ.1 1 6 = μ.1 0 7 ∧ σ.1 1 7 = μ.1 0 8 ∧ (∀ j : Nat, (j : Int) < (μ.1 0 5).toInt → σ.1 (ztp (σ.1 1 1)) ((σ.1 1 3).toNatClampNeg + j) = μ.1 2 j &&& 255) ∧ (0 ≤ (μ.1 0 8).toInt → (μ.1 0 8).toInt + 16 ≤ (μ.1 0 5).toInt ∧ μ.1 0 9 = zSum (μ.1 0 5) (μ.1 0 8) (fun j => μ.1 2 j &&& 255))
theorem zCart.keep {σ σ' μ μ' : zSt} (h : zCart σ μ) (a : ∀ j, j ∈ [1, 3, 4, 5, 6, 7] → σ'.1 1 j = σ.1 1 j) (a2 : σ'.1 (ztp (σ.1 1 1)) = σ.1 (ztp (σ.1 1 1))) (b : ∀ j, j ∈ [5, 6, 7, 8, 9] → μ'.1 0 j = μ.1 0 j) (b2 : μ'.1 2 = μ.1 2) : zCart σ' μ' := by
  unfold zCart at h ⊢
  rw [a 1 (by decide), a 3 (by decide), a 4 (by decide), a 5 (by decide), a 6 (by decide), a 7 (by decide), a2, b 5 (by decide), b 6 (by decide), b 7 (by decide), b 8 (by decide), b 9 (by decide), b2]
  exact h
def zR6L (L : Int) (σ μ : zSt) : Prop := (∀ j : Nat, (j : Int) < L → σ.1 (ztp (σ.1 1 0)) j = μ.1 1 j &&& 255) ∧ ¬ ztp (σ.1 1 0) = ztp (σ.1 1 1) ∧ zCart σ μ
def zR6 (σ μ : zSt) : Prop := σ.1 1 2 = μ.1 0 2 ∧ zR6L (μ.1 0 2).toInt σ μ
theorem z_tp13 (x : Int32) : ztp x = 13 ∨ ztp x = 14 := by
  unfold ztp
  split
  · exact Or.inl rfl
  · exact Or.inr rfl
theorem zKeC.row {σ σ' : zSt} (a : zKeC σ σ') (w : Int32) : σ'.1 (ztp w) = σ.1 (ztp w) := by
  rcases z_tp13 w with e | e <;> rw [e]
  · exact a.2.1
  · exact a.2.2
theorem zR6.keep {σ σ' μ μ' : zSt} (h : zR6 σ μ) (a : zKeC σ σ') (b : zKeM μ μ') : zR6 σ' μ' := by
  obtain ⟨h1, h2, h3, h4⟩ := h
  have c : zCart σ' μ' := h4.keep (fun j _ => by rw [a.1]) (a.row _) (fun j hj => b.2.2 j (by revert hj; simp only [List.mem_cons, List.not_mem_nil, or_false]; omega)) b.2.1
  unfold zR6 zR6L
  rw [a.1, a.row, b.2.2 2 (by decide), b.1]
  exact ⟨h1, h2, h3, c⟩
/-- one byte of the tape on both sides -/
theorem zR6L.set {L L' : Int} {σ μ : zSt} (h : zR6L L σ μ) {i : Nat} {x y : Int32} (hx : x = y &&& 255) (hL : ∀ j : Nat, (j : Int) < L' → ¬ j = i → (j : Int) < L) : zR6L L' (zsi σ (ztp (σ.1 1 0)) i x) (zsi μ 1 i y) := by
  obtain ⟨h1, h2, h3⟩ := h
  have n1 : ¬ 1 = ztp (σ.1 1 0) := z_tp1 _
  have r1 : (zsi σ (ztp (σ.1 1 0)) i x).1 1 = σ.1 1 := zsi_ne n1
  refine ⟨fun j hj => ?_, by rw [r1]; exact h2, h3.keep (fun j _ => by rw [r1]) (zsi_ne (fun r => h2 r.symm)) (fun j _ => by rw [zsi_ne (by decide)]) (zsi_ne (by decide))⟩
  rw [r1]
  by_cases q : j = i
  · subst q
    rw [zsi_ej, zsi_ej]
    exact hx
  · rw [zsi_nj q, zsi_nj q]
    exact h1 j (hL j hj q)
theorem zR6L.lenC {L : Int} {σ μ : zSt} (h : zR6L L σ μ) {v : Int32} : zR6L L (zsi σ 1 2 v) μ := by
  obtain ⟨h1, h2, h3⟩ := h
  have k : ∀ j, ¬ j = 2 → (zsi σ 1 2 v).1 1 j = σ.1 1 j := fun j q => zsi_nj q
  have r : ∀ w, (zsi σ 1 2 v).1 (ztp w) = σ.1 (ztp w) := fun w => zsi_ne (fun e => z_tp1 w e.symm)
  refine ⟨fun j hj => ?_, by rw [k 0 (by decide), k 1 (by decide)]; exact h2, h3.keep (fun j hj => k j (fun e => by subst e; revert hj; decide)) (r _) (fun j _ => rfl) rfl⟩
  rw [k 0 (by decide), r]
  exact h1 j hj
theorem zR6L.wM {L : Int} {σ μ : zSt} (h : zR6L L σ μ) {j : Nat} {v : Int32} (c : [5, 6, 7, 8, 9].contains j = false) : zR6L L σ (zsi μ 0 j v) := by
  obtain ⟨h1, h2, h3⟩ := h
  refine ⟨fun i hi => ?_, h2, h3.keep (fun _ _ => rfl) rfl (fun i hi => ?_) (zsi_ne (by decide))⟩
  · rw [zsi_ne (by decide)]
    exact h1 i hi
  · exact zsi_nj (fun e => by rw [← e, List.contains_iff_mem.mpr hi] at c; exact absurd c (by decide))
/-! feed -/
theorem p_add {σ : zSt} {x : Int32} (hr : (zgi σ 1 2).toInt ≤ 262655) : zpc (fX2_addToTape σ x) (fun r => r = zsi (zsi σ (ztp (σ.1 1 0)) (zgi σ 1 2).toNatClampNeg x) 1 2 (zgi σ 1 2 + 1)) := by
  unfold fX2_addToTape fX2_addToTape_29
  have c2 : (262656 : Int32).toInt = 262656 := rfl
  refine zpc_if (fun q => ?_) (fun q => zpc_ck (zpc_bv (fun σ1 e1 => zpc_bv (fun σ2 e2 => zpc_some ?_))))
  · have q1 := Int32.le_iff_toInt_le.mp q
    exfalso
    omega
  · have a2 : zgi σ1 1 2 = zgi σ 1 2 := by
      subst e1
      show (zsi σ (ztp _) _ _).1 1 2 = σ.1 1 2
      rw [zsi_off (fun r => z_tp1 _ r.1)]
    rw [e2, a2, e1]
    rfl
theorem z_clamp {x : Int32} (h : 0 ≤ x.toInt) : (x.toNatClampNeg : Int) = x.toInt := by
  have : x.toNatClampNeg = x.toInt.toNat := rfl
  omega
theorem z2_feed_48 {x1 : Int32} {x2 x4 x6 : Int64} (hx : zr 1 24 x1) : ∀ (n m : Nat) (σ μ : zSt) (x8 : Int32), zR6 σ μ → zr 0 24 x8 → x8.toInt ≤ x1.toInt → 0 ≤ (μ.1 0 2).toInt → (μ.1 0 2).toInt + (x1.toInt - x8.toInt) ≤ 262656 → zp2 (fX11_feed_48 n σ x1 x2 x4 x6 x8) (fX12_feed_54 m μ x1 x2 x4 x6 x8) (fun r r' => zR6 (zRis r) r'.1) := by
  intro n
  induction n with
  | zero => intro m σ μ x8 _ _ _ _ _; exact zp2_nl
  | succ n ih =>
    intro m σ μ x8 hR h8 hle h0 hb
    cases m with
    | zero => exact zp2_nr
    | succ m =>
      show zp2 (fX11_feed_48_body (fX11_feed_48 n) σ x1 x2 x4 x6 x8) (fX12_feed_54_body (fX12_feed_54 m) μ x1 x2 x4 x6 x8) _
      unfold fX11_feed_48_body fX12_feed_54_body
      have b8 := h8.1
      have bx := hx.2
      refine zp2_if (fun q => zp2_some hR) (fun q => ?_)
      have q1 := Int32.lt_iff_toInt_lt.mp (z_nle q)
      have f : ∀ s0, zp2 (fX11_feed_79 (fX11_feed_48 n) σ x1 x2 x4 x6 x8 s0) (fX12_feed_93 (fX12_feed_54 m) μ x1 x2 x4 x6 x8 s0 (zgi μ 0 2)) (fun r r' => zR6 (zRis r) r'.1) := fun s0 => by
        unfold fX11_feed_79 fX12_feed_93
        have e12 : zgi σ 1 2 = zgi μ 0 2 := hR.1
        have hl : (zgi μ 0 2).toInt ≤ 262655 := by show (μ.1 0 2).toInt ≤ 262655; omega
        refine zp2_bul (p_add (by rw [e12]; exact hl)) (fun σ1 s1 => zp2_bvl (fun v2 e2 => zp2_ckr (zp2_ckr (zp2_bvr (fun μ1 m1 => zp2_bvr (fun μ2 m2 => zp2_bvr (fun v3 e3 => ?_)))))))
        have a2 : zgi μ1 0 2 = zgi μ 0 2 := by
          subst m1
          show (zsi μ 1 _ _).1 0 2 = μ.1 0 2
          rw [zsi_off (by omega)]
        have c1 : (1 : Int32).toInt = 1 := rfl
        have r1 : zr 1 1 (1 : Int32) := zr_c (by decide)
        have t3 : (zgi μ 0 2 + 1).toInt = (zgi μ 0 2).toInt + (1 : Int32).toInt := z_tadd (a := 0) (b := 262655) ⟨h0, hl⟩ r1 (by decide)
        have l2 : (μ2.1 0 2) = zgi μ 0 2 + 1 := by rw [m2, a2, zsi_ej]
        have cl : ((zgi μ 0 2).toNatClampNeg : Int) = (zgi μ 0 2).toInt := z_clamp h0
        have g2 : (zgi μ 0 2).toInt = (μ.1 0 2).toInt := rfl
        have R1 : zR6L ((μ.1 0 2).toInt + 1) (zsi σ (ztp (σ.1 1 0)) (zgi μ 0 2).toNatClampNeg ((((zlushr s0 (8 * (x8 &&& 7))).toInt32) &&& 255))) μ1 := by
          rw [m1]
          exact hR.2.set (z_feedb ⟨b8, by omega⟩) (fun j hj nj => by omega)
        have R2 : zR6 σ1 μ2 := by
          refine ⟨?_, ?_⟩
          · rw [s1, zsi_ej, l2, e12]
          · rw [l2, t3, c1, g2, s1, e12, m2]
            exact (R1.lenC).wM (by decide)
        have t8 : (x8 + 1).toInt = x8.toInt + (1 : Int32).toInt := z_tadd h8 r1 (by decide)
        have t : v3.toInt = x8.toInt + 1 := by rw [e3, t8, c1]
        have e23 : v2 = v3 := by rw [e2, e3]
        rw [e23]
        have l3 : (μ2.1 0 2).toInt = (μ.1 0 2).toInt + 1 := by rw [l2, t3, c1, g2]
        exact ih m σ1 μ2 v3 R2 ⟨by omega, by omega⟩ (by omega) (by omega) (by omega)
      exact zp2_if (fun _ => zp2_if (fun _ => f _) (fun _ => f _)) (fun _ => f _)
end ZJN1
section ZJN2
theorem zp2_within {α β : Type} {o : Option α} {σ : zSt} {a l h : Int64} {f : zSt → Int32 → Option β} {Q : α → β → Prop} (k1 : l.toInt ≤ a.toInt → a.toInt ≤ h.toInt → zp2 o (f σ 1) Q) (k0 : (a.toInt < l.toInt ∨ h.toInt < a.toInt) → zp2 o (f σ 0) Q) : zp2 o (zbi (fX12_within σ a l h) f) Q := by
  unfold fX12_within
  by_cases q1 : lg_cmp a l < 0
  · rw [if_pos q1]; exact k0 (Or.inl (z_cmp_lt.mp q1))
  · rw [if_neg q1]
    by_cases q2 : 0 < lg_cmp a h
    · rw [if_pos q2]; exact k0 (Or.inr (z_cmp_gt.mp q2))
    · rw [if_neg q2]
      exact k1 (Int.not_lt.mp (fun r => q1 (z_cmp_lt.mpr r))) (Int.not_lt.mp (fun r => q2 (z_cmp_gt.mpr r)))
theorem zp2_fails0 {α β : Type} {o : Option α} {σ : zSt} {c : Int32} {f : zSt → Int32 → Option β} {Q : α → β → Prop} (k : ∀ σ1, σ1 = zsi σ 0 0 0 → zp2 o (f σ1 0) Q) : zp2 o (zbi (fX12_fails σ 0 c) f) Q := by
  unfold fX12_fails
  rw [if_pos rfl]
  exact k _ rfl
theorem zp2_fails1 {α β : Type} {o : Option α} {σ : zSt} {c : Int32} {f : zSt → Int32 → Option β} {Q : α → β → Prop} (k : ∀ σ1, σ1 = zsi σ 0 0 c → zp2 o (f σ1 1) Q) : zp2 o (zbi (fX12_fails σ 1 c) f) Q := by
  unfold fX12_fails
  rw [if_neg (by decide)]
  exact k _ rfl
theorem zR6.thr {σ μ μ1 : zSt} {v : Int32} (h : zR6 σ μ) (e : μ1 = zsi μ 0 0 v) : zR6 σ μ1 := by
  subst e
  refine ⟨?_, ?_⟩
  · rw [zsi_nj (by decide)]; exact h.1
  · rw [zsi_nj (by decide)]; exact h.2.wM (by decide)
theorem z_c02 {μ μ1 : zSt} {v : Int32} (e : μ1 = zsi μ 0 0 v) : zgi μ1 0 2 = zgi μ 0 2 := by
  subst e
  show (zsi μ 0 0 _).1 0 2 = μ.1 0 2
  rw [zsi_off (by omega)]
theorem z2_feed {σ μ : zSt} {x1 : Int32} {x2 x4 x6 : Int64} (h : zR6 σ μ) (hr : zr 0 262656 (zgi μ 0 2)) : zp2 (fX11_feed σ x1 x2 x4 x6) (fX12_feed μ x1 x2 x4 x6) (fun r r' => zR6 (zRis r) r'.1) := by
  unfold fX11_feed fX11_feed_11 fX12_feed
  have c1 : (1 : Int32).toInt = 1 := rfl
  have c4 : (24 : Int32).toInt = 24 := rfl
  have c2 : (262656 : Int32).toInt = 262656 := rfl
  have c0 : (0 : Int32).toInt = 0 := rfl
  refine zp2_within (fun w1 w2 => ?_) (fun w3 => ?_)
  · have hx := z_wir w1 w2 (zrl_c (lo := 1) (hi := 1) (by decide)) (zrl_c (lo := 24) (hi := 24) (by decide))
    have hx1 := hx.1
    have hx2 := hx.2
    refine zp2_ifr (fun q => absurd q (by decide)) (fun _ => ?_)
    unfold fX12_feed_18
    refine zp2_fails0 (fun μ1 e1 => zp2_ifr (fun _ => ?_) (fun q => absurd rfl q))
    refine zp2_ifl (fun q => ?_) (fun _ => zp2_ifl (fun _ => ?_) (fun q => ?_))
    · have := Int32.lt_iff_toInt_lt.mp q; exfalso; omega
    · have R1 := h.thr e1
      have e : zgi μ1 0 2 = zgi σ 1 2 := (z_c02 e1).trans h.1.symm
      have t : (zgi μ 0 2 + x1).toInt = (zgi μ 0 2).toInt + x1.toInt := z_tadd hr hx (by decide)
      rw [e]
      refine zp2_if (fun q => ?_) (fun q => ?_)
      · have q1 := Int32.le_iff_toInt_le.mp q
        rw [show zgi σ 1 2 = zgi μ 0 2 from h.1, t, c2] at q1
        unfold fX12_feed_42
        refine zp2_fails0 (fun μ2 e2 => zp2_ifr (fun _ => ?_) (fun q => absurd rfl q))
        have e3 : μ2.1 0 2 = zgi μ 0 2 := (z_c02 e2).trans (z_c02 e1)
        have hr1 := hr.1
        exact z2_feed_48 hx _ _ _ _ 0 (R1.thr e2) (zr_c (by decide)) (by omega) (by rw [e3]; exact hr1) (by rw [e3, c0]; omega)
      · unfold fX12_feed_42 fX12_feed_49
        exact zp2_fails1 (fun μ2 e2 => zp2_ifr (fun q => absurd q (by decide)) (fun _ => zp2_some (R1.thr e2)))
    · have := Int32.lt_iff_toInt_lt.mp (z_nle q); exfalso; omega
  · have hn : ¬ zr 1 24 x1 := z_within w3 rfl rfl
    refine zp2_ifr (fun _ => ?_) (fun q => absurd rfl q)
    unfold fX12_feed_18 fX12_feed_49
    refine zp2_fails1 (fun μ1 e1 => zp2_ifr (fun q => absurd q (by decide)) (fun _ => ?_))
    refine zp2_ifl (fun _ => zp2_some (h.thr e1)) (fun q => zp2_ifl (fun q1 => ?_) (fun _ => zp2_some (h.thr e1)))
    have r := Int32.le_iff_toInt_le.mp (z_nlt q)
    have r1 := Int32.le_iff_toInt_le.mp q1
    exact absurd ⟨by omega, by omega⟩ hn
/-! grow -/
theorem z2_grow_15 {x2 x3 : Int32} (h2 : 0 < x2.toInt) (h3 : zr 0 262656 x3) : ∀ (n m : Nat) (σ μ : zSt) (x4 : Int32), x4 = zgi μ 0 2 → x2.toInt ≤ x4.toInt → x4.toInt ≤ x3.toInt → zR6L x4.toInt σ μ → (∀ j : Nat, (j : Int) < x4.toInt → σ.1 (ztp (σ.1 1 0)) j = σ.1 (ztp (σ.1 1 0)) (j % x2.toNatClampNeg)) → zp2 (fX2_repeatTape_15 n σ x2 x3 x4) (fX12_grow_54 m μ x3 x2) (fun r r' => zR6 r r'.1) := by
  intro n
  induction n with
  | zero => intro m σ μ x4 _ _ _ _ _; exact zp2_nl
  | succ n ih =>
    intro m σ μ x4 e4 hle hl3 hR hp
    cases m with
    | zero => exact zp2_nr
    | succ m =>
      show zp2 (fX2_repeatTape_15_body (fX2_repeatTape_15 n) σ x2 x3 x4) (fX12_grow_54_body (fX12_grow_54 m) μ x3 x2) _
      unfold fX2_repeatTape_15_body fX12_grow_54_body
      have b3 := h3.2
      have c0 : (0 : Int32).toInt = 0 := rfl
      rw [← e4]
      refine zp2_if (fun q => ?_) (fun q => ?_)
      · have q1 := Int32.le_iff_toInt_le.mp q
        have e34 : x3 = x4 := Int32.toInt_inj.mp (by omega)
        unfold fX2_repeatTape_47
        refine zp2_bvl (fun σ1 s1 => zp2_some ?_)
        have mx : zmax x2 x3 = x3 := by
          unfold zmax
          split
          · rfl
          · next r => exact Int32.toInt_inj.mp (by have := Int32.le_iff_toInt_le.mp (z_nlt r); omega)
        have l : μ.1 0 2 = x4 := e4.symm
        refine ⟨?_, ?_⟩
        · rw [s1, zsi_ej, mx, l, e34]
        · rw [s1, l]
          exact hR.lenC
      · have q1 := Int32.lt_iff_toInt_lt.mp (z_nle q)
        refine zp2_ifl (fun r => ?_) (fun _ => ?_)
        · have := Int32.le_iff_toInt_le.mp r; exfalso; omega
        · refine zp2_ckl (zp2_ckl (zp2_bvl (fun σ1 s1 => zp2_bvl (fun v v1 => zp2_ckr (zp2_ckr (zp2_ckr (zp2_bvr (fun μ1 m1 => zp2_bvr (fun μ2 m2 => ?_)))))))))
          have c1 : (1 : Int32).toInt = 1 := rfl
          have r1 : zr 1 1 (1 : Int32) := zr_c (by decide)
          have r4 : zr 0 262655 x4 := ⟨by omega, by omega⟩
          have r2 : zr 0 262655 x2 := ⟨by omega, by omega⟩
          have t4 : (x4 + 1).toInt = x4.toInt + (1 : Int32).toInt := z_tadd r4 r1 (by decide)
          have ts : (x4 - x2).toInt = x4.toInt - x2.toInt := z_tsub r4 r2 (by decide)
          have k4 := z_clamp (x := x4) (by omega)
          have k2 := z_clamp (x := x2) (by omega)
          have ks := z_clamp (x := x4 - x2) (by omega)
          have tr := z_trem (y := x2) x2.toInt rfl r4 ⟨by decide, h2⟩
          have m0 := Int.emod_nonneg x4.toInt (b := x2.toInt) (by omega)
          have m9 := Int.emod_lt_of_pos x4.toInt (b := x2.toInt) h2
          have kr := z_clamp (x := zrem x4 x2) (by omega)
          have er : (zrem x4 x2).toNatClampNeg = x4.toNatClampNeg % x2.toNatClampNeg := by
            have e5 : ((x4.toNatClampNeg % x2.toNatClampNeg : Nat) : Int) = (x4.toNatClampNeg : Int) % (x2.toNatClampNeg : Int) := Int.natCast_emod _ _
            rw [k4, k2] at e5
            omega
          have es : (x4 - x2).toNatClampNeg = x4.toNatClampNeg - x2.toNatClampNeg := by omega
          have lt : (x4.toNatClampNeg % x2.toNatClampNeg) < x2.toNatClampNeg := Nat.mod_lt _ (by omega)
          -- the byte
          have hb : σ.1 (ztp (σ.1 1 0)) (x4 - x2).toNatClampNeg = σ.1 (ztp (σ.1 1 0)) (x4.toNatClampNeg % x2.toNatClampNeg) := by
            rw [es, hp _ (by omega), ← Nat.mod_eq_sub_mod (by omega)]
          have hm : σ.1 (ztp (σ.1 1 0)) (x4.toNatClampNeg % x2.toNatClampNeg) = μ.1 1 (x4.toNatClampNeg % x2.toNatClampNeg) &&& 255 := hR.1 _ (by omega)
          have hy : σ.1 (ztp (σ.1 1 0)) (x4 - x2).toNatClampNeg = vp_nar .byte (μ.1 1 (zrem x4 x2).toNatClampNeg) &&& 255 := by rw [z_nar, er, hb]; exact hm
          have R1 : zR6L (x4.toInt + 1) σ1 μ1 := by
            rw [s1, m1]
            exact hR.set hy (fun j hj nj => by omega)
          have a2 : zgi μ1 0 2 = x4 := by
            rw [m1, e4]
            show (zsi μ 1 _ _).1 0 2 = μ.1 0 2
            rw [zsi_off (by omega)]
          have l2 : zgi μ2 0 2 = x4 + 1 := by
            rw [m2, a2]
            exact zsi_ej
          have ev : v = x4 + 1 := v1
          have w1 : σ1.1 1 0 = σ.1 1 0 := by
            rw [s1]
            exact zsi_off (fun r => z_tp1 _ r.1)
          rw [ev]
          refine ih m σ1 μ2 (x4 + 1) l2.symm (by omega) (by omega) ?_ (fun j hj => ?_)
          · rw [t4, c1, m2]
            exact R1.wM (by decide)
          · rw [w1]
            have at1 : ∀ i : Nat, σ1.1 (ztp (σ.1 1 0)) i = if i = x4.toNatClampNeg then σ.1 (ztp (σ.1 1 0)) (x4 - x2).toNatClampNeg else σ.1 (ztp (σ.1 1 0)) i := fun i => by
              rw [s1]
              show (zsi σ (ztp (σ.1 1 0)) _ _).1 (ztp (σ.1 1 0)) i = _
              by_cases q : i = x4.toNatClampNeg
              · rw [if_pos q, q, zsi_ej]; rfl
              · rw [if_neg q, zsi_nj q]
            have lj : j % x2.toNatClampNeg < x2.toNatClampNeg := Nat.mod_lt _ (by omega)
            rw [at1 j, at1 (j % x2.toNatClampNeg), if_neg (show ¬ j % x2.toNatClampNeg = x4.toNatClampNeg by omega)]
            by_cases q : j = x4.toNatClampNeg
            · rw [if_pos q, hb, q]
            · rw [if_neg q]
              exact hp j (by omega)
theorem z2_grow {σ μ : zSt} {x1 : Int32} (h : zR6 σ μ) (hr : zr 0 262656 (zgi μ 0 2)) : zp2 (fX11_grow σ x1) (fX12_grow μ x1) (fun r r' => zR6 (zRis r) r'.1) := by
  unfold fX11_grow fX11_grow_19 fX12_grow fX12_grow_15
  have c2 : (262656 : Int32).toInt = 262656 := rfl
  have c0 : (0 : Int32).toInt = 0 := rfl
  have e12 : zgi σ 1 2 = zgi μ 0 2 := h.1
  refine zp2_bvl (fun v1 e1 => ?_)
  rw [e12] at e1
  subst e1
  have no : zp2 (some (Sum.inr (σ, 1)) : Option zRi) (fX12_grow_20 μ x1 1) (fun r r' => zR6 (zRis r) r'.1) := by
    unfold fX12_grow_20 fX12_grow_47
    exact zp2_fails1 (fun μ1 e1 => zp2_ifr (fun q => absurd q (by decide)) (fun _ => zp2_some (h.thr e1)))
  refine zp2_if (fun _ => no) (fun q => zp2_if (fun q1 => ?_) (fun _ => no))
  have r := Int32.le_iff_toInt_le.mp (z_nlt q)
  have r1 := Int32.le_iff_toInt_le.mp q1
  rw [c2] at r1
  have hr1 := hr.1
  unfold fX12_grow_20
  refine zp2_fails0 (fun μ1 e1 => zp2_ifr (fun _ => ?_) (fun q => absurd rfl q))
  rw [z_c02 e1]
  have R1 := h.thr e1
  refine zp2_if (fun q2 => ?_) (fun q2 => ?_)
  · unfold fX12_grow_40 fX12_grow_47
    exact zp2_fails1 (fun μ2 e2 => zp2_ifr (fun q => absurd q (by decide)) (fun _ => zp2_some (R1.thr e2)))
  · unfold fX12_grow_40 fX2_repeatTape
    refine zp2_fails0 (fun μ2 e2 => zp2_ifr (fun _ => zp2_bvr (fun v5 e5 => ?_)) (fun q => absurd rfl q))
    have R2 := R1.thr e2
    have l2 : zgi μ2 0 2 = zgi μ 0 2 := (z_c02 e2).trans (z_c02 e1)
    have m1 : zmin x1 262656 = x1 := by
      unfold zmin
      rw [if_neg (fun h => by have := Int32.lt_iff_toInt_lt.mp h; omega)]
    have n0 : ¬ (zgi μ 0 2).toInt = 0 := fun z => q2 (Int32.toInt_inj.mp (z.trans c0.symm))
    have two : zp2 (fX2_repeatTape_15 zfuel σ (zgi μ 0 2) x1 (zgi μ 0 2)) (fX12_grow_54 zfuel μ2 x1 (zgi μ 0 2)) (fun r r' => zR6 r r'.1) := by
      refine z2_grow_15 (by omega) ⟨by omega, r1⟩ zfuel zfuel σ μ2 _ l2.symm (Int.le_refl _) r ?_ (fun j hj => ?_)
      · have z := R2.2
        rw [show μ2.1 0 2 = zgi μ 0 2 from l2] at z
        exact z
      · have k := z_clamp (x := zgi μ 0 2) (by omega)
        rw [Nat.mod_eq_of_lt (by omega)]
    rw [e5, l2]
    refine fun a b ea eb => ?_
    have eq : zbu (zbv (zgi σ 1 2) (fun v4 => zbv (zmin x1 262656) (fun v5 => fX2_repeatTape_15 zfuel σ v4 v5 v4))) (fun σ2 => (some (Sum.inl (σ2, zgi μ 0 2)) : Option zRi)) = some a := ea
    have eq2 : zbu (fX2_repeatTape_15 zfuel σ (zgi μ 0 2) x1 (zgi μ 0 2)) (fun σ2 => (some (Sum.inl (σ2, zgi μ 0 2)) : Option zRi)) = some a := by
      rw [← eq]
      show _ = zbu (fX2_repeatTape_15 zfuel σ (zgi σ 1 2) (zmin x1 262656) (zgi σ 1 2)) _
      rw [m1, e12]
    cases q9 : fX2_repeatTape_15 zfuel σ (zgi μ 0 2) x1 (zgi μ 0 2) with
    | none => rw [q9] at eq2; cases eq2
    | some s =>
      rw [q9] at eq2
      have ea2 : (some (Sum.inl (s, zgi μ 0 2)) : Option zRi) = some a := eq2
      cases ea2
      exact two s b q9 eb
/-! patch -/
theorem z2_patch_3 {x1 : Int32} {x2 : Int64} : ∀ (n m : Nat) (σ μ : zSt) (x4 : Int32), zR6 σ μ → zr 0 8 x4 → 0 ≤ x1.toInt → x1.toInt + 8 ≤ (zgi μ 0 2).toInt → (zgi μ 0 2).toInt ≤ 262656 → zp2 (fX2_changeTape_3 n σ x1 x2 x4) (fX12_patch_32 m μ x1 x2 x4) (fun r r' => zR6 r r') := by
  intro n
  induction n with
  | zero => intro m σ μ x4 _ _ _ _ _; exact zp2_nl
  | succ n ih =>
    intro m σ μ x4 hR h4 hx hl hm
    cases m with
    | zero => exact zp2_nr
    | succ m =>
      show zp2 (fX2_changeTape_3_body (fX2_changeTape_3 n) σ x1 x2 x4) (fX12_patch_32_body (fX12_patch_32 m) μ x1 x2 x4) _
      unfold fX2_changeTape_3_body fX12_patch_32_body fX2_changeTape_52
      have c8 : (8 : Int32).toInt = 8 := rfl
      have c0 : (0 : Int32).toInt = 0 := rfl
      have b4 := h4.1
      refine zp2_if (fun q => zp2_some hR) (fun q => ?_)
      have q1 := Int32.lt_iff_toInt_lt.mp (z_nle q)
      have t : (x1 + x4).toInt = x1.toInt + x4.toInt := z_tadd (a := 0) (b := 262656) (c := 0) (d := 8) ⟨hx, by omega⟩ h4 (by decide)
      have e12 : zgi σ 1 2 = zgi μ 0 2 := hR.1
      refine zp2_ifl (fun r => ?_) (fun _ => zp2_ifl (fun r => ?_) (fun _ => ?_))
      · have := Int32.lt_iff_toInt_lt.mp r; exfalso; omega
      · rw [e12] at r
        have := Int32.le_iff_toInt_le.mp r
        exfalso
        omega
      · refine zp2_ckl (zp2_bvl (fun σ1 s1 => zp2_bvl (fun v2 e2 => zp2_ckr (zp2_bvr (fun μ1 m1 => zp2_bvr (fun v3 e3 => ?_))))))
        have R1 : zR6L (μ.1 0 2).toInt σ1 μ1 := by
          rw [s1, m1]
          exact hR.2.set (z_patchb ⟨b4, by omega⟩) (fun j hj _ => hj)
        have l1 : zgi μ1 0 2 = zgi μ 0 2 := by
          rw [m1]
          show (zsi μ 1 _ _).1 0 2 = μ.1 0 2
          rw [zsi_off (by omega)]
        have l0 : σ1.1 1 2 = σ.1 1 2 := by
          rw [s1]
          exact zsi_off (fun r => z_tp1 _ r.1)
        have R2 : zR6 σ1 μ1 := ⟨by rw [l0]; exact hR.1.trans l1.symm, by rw [show μ1.1 0 2 = μ.1 0 2 from l1]; exact R1⟩
        have c1 : (1 : Int32).toInt = 1 := rfl
        have t4 : (x4 + 1).toInt = x4.toInt + (1 : Int32).toInt := z_tadd h4 (zr_c (lo := 1) (hi := 1) (by decide)) (by decide)
        rw [e2, e3]
        exact ih m σ1 μ1 (x4 + 1) R2 ⟨by omega, by omega⟩ hx (by rw [l1]; exact hl) (by rw [l1]; exact hm)
theorem z2_patch {σ μ : zSt} {x1 : Int32} {x2 : Int64} (h : zR6 σ μ) (hr : zr 0 262656 (zgi μ 0 2)) : zp2 (fX11_patch σ x1 x2) (fX12_patch μ x1 x2) (fun r r' => zR6 (zRus r) r') := by
  unfold fX11_patch fX11_patch_18 fX12_patch fX12_patch_16
  have c0 : (0 : Int32).toInt = 0 := rfl
  have c8 : (8 : Int32).toInt = 8 := rfl
  have e12 : zgi σ 1 2 = zgi μ 0 2 := h.1
  have no : zp2 (some (Sum.inr (σ, 1)) : Option zRu) (fX12_patch_21 μ x1 x2 1) (fun r r' => zR6 (zRus r) r') := by
    unfold fX12_patch_21
    exact zp2_fails1 (fun μ1 e1 => zp2_ifr (fun q => absurd q (by decide)) (fun _ => zp2_some (h.thr e1)))
  have t : (zgi μ 0 2 - 8).toInt = (zgi μ 0 2).toInt - (8 : Int32).toInt := z_tsub hr (zr_c (lo := 8) (hi := 8) (by decide)) (by decide)
  rw [e12]
  refine zp2_if (fun _ => no) (fun q => zp2_if (fun q1 => ?_) (fun _ => no))
  have r := Int32.le_iff_toInt_le.mp (z_nlt q)
  have r1 := Int32.le_iff_toInt_le.mp q1
  rw [t, c8] at r1
  unfold fX12_patch_21 fX2_changeTape
  refine zp2_fails0 (fun μ1 e1 => zp2_ifr (fun _ => ?_) (fun q => absurd rfl q))
  have l := z_c02 e1
  have hr2 := hr.2
  have two : zp2 (fX2_changeTape_3 zfuel σ x1 x2 0) (fX12_patch_32 zfuel μ1 x1 x2 0) (fun r r' => zR6 r r') := z2_patch_3 zfuel zfuel σ μ1 0 (h.thr e1) (zr_c (by decide)) (by omega) (by rw [l]; omega) (by rw [l]; exact hr2)
  refine fun a b ea eb => ?_
  cases q9 : fX2_changeTape_3 zfuel σ x1 x2 0 with
  | none => rw [q9] at ea; cases ea
  | some s =>
    rw [q9] at ea
    have ea2 : (some (Sum.inl s) : Option zRu) = some a := ea
    cases ea2
    exact two s b q9 eb
end ZJN2
section ZJN3
/-! what a cartridge's bytes say: the header's place, the paging -/
def zHm (b : Nat → Int32) (p : Nat) : Prop := ∀ i, i < 8 → b (p + i) = zt0 i
def zHp (z : Int32) (b : Nat → Int32) (p : Nat) : Prop := (p : Int) + 16 ≤ z.toInt ∧ zHm b p
/-- h is the place that both sides find -/
def zIsH (z : Int32) (b : Nat → Int32) (h : Int32) : Prop := (zHp z b 32752 ∧ h = 32752) ∨ (¬ zHp z b 32752 ∧ zHp z b 16368 ∧ h = 16368) ∨ (¬ zHp z b 32752 ∧ ¬ zHp z b 16368 ∧ zHp z b 8176 ∧ h = 8176) ∨ (¬ zHp z b 32752 ∧ ¬ zHp z b 16368 ∧ ¬ zHp z b 8176 ∧ h = -1)
theorem zIsH.one {z : Int32} {b : Nat → Int32} {h h' : Int32} (a : zIsH z b h) (c : zIsH z b h') : h = h' := by
  rcases a with ⟨a1, e⟩ | ⟨a1, a2, e⟩ | ⟨a1, a2, a3, e⟩ | ⟨a1, a2, a3, e⟩ <;> rcases c with ⟨c1, f⟩ | ⟨c1, c2, f⟩ | ⟨c1, c2, c3, f⟩ | ⟨c1, c2, c3, f⟩ <;> first | exact e.trans f.symm | exact absurd a1 c1 | exact absurd c1 a1 | exact absurd a2 c2 | exact absurd c2 a2 | exact absurd a3 c3 | exact absurd c3 a3
theorem zHp.cong {z : Int32} {b b' : Nat → Int32} {p : Nat} (e : ∀ j : Nat, (j : Int) < z.toInt → b j = b' j) (h : zHp z b p) : zHp z b' p := ⟨h.1, fun i hi => by rw [← e (p + i) (by have := h.1; omega)]; exact h.2 i hi⟩
theorem zHp_cong {z : Int32} {b b' : Nat → Int32} {p : Nat} (e : ∀ j : Nat, (j : Int) < z.toInt → b j = b' j) : zHp z b p ↔ zHp z b' p := ⟨zHp.cong e, zHp.cong (fun j hj => (e j hj).symm)⟩
theorem zIsH.cong {z : Int32} {b b' : Nat → Int32} {h : Int32} (e : ∀ j : Nat, (j : Int) < z.toInt → b j = b' j) (a : zIsH z b h) : zIsH z b' h := by
  unfold zIsH at a ⊢
  rw [← zHp_cong (p := 32752) e, ← zHp_cong (p := 16368) e, ← zHp_cong (p := 8176) e]
  exact a
def zWd (b : Nat → Int32) (p : Nat) : Int32 := b p + 256 * b (p + 1)
def zIsP (z : Int32) (b : Nat → Int32) (h v : Int32) : Prop := (¬ 49152 < z ∧ v = 0) ∨ (49152 < z ∧ zWd b 32742 + zWd b 32744 = 65536 ∧ v = 2) ∨ (49152 < z ∧ ¬ zWd b 32742 + zWd b 32744 = 65536 ∧ 0 ≤ h ∧ v = 1) ∨ (49152 < z ∧ ¬ zWd b 32742 + zWd b 32744 = 65536 ∧ ¬ 0 ≤ h ∧ v = 3)
theorem zIsP.one {z : Int32} {b : Nat → Int32} {h v v' : Int32} (a : zIsP z b h v) (c : zIsP z b h v') : v = v' := by
  rcases a with ⟨a1, e⟩ | ⟨a1, a2, e⟩ | ⟨a1, a2, a3, e⟩ | ⟨a1, a2, a3, e⟩ <;> rcases c with ⟨c1, f⟩ | ⟨c1, c2, f⟩ | ⟨c1, c2, c3, f⟩ | ⟨c1, c2, c3, f⟩ <;> first | exact e.trans f.symm | exact absurd a1 c1 | exact absurd c1 a1 | exact absurd a2 c2 | exact absurd c2 a2 | exact absurd a3 c3 | exact absurd c3 a3
theorem zIsP.cong {z : Int32} {b b' : Nat → Int32} {h v : Int32} (e : ∀ j : Nat, (j : Int) < z.toInt → b j = b' j) (a : zIsP z b h v) : zIsP z b' h v := by
  by_cases q : 49152 < z
  · have q1 := Int32.lt_iff_toInt_lt.mp q
    have c : (49152 : Int32).toInt = 49152 := rfl
    unfold zIsP zWd at a ⊢
    rw [← e 32742 (by omega), ← e (32742 + 1) (by omega), ← e 32744 (by omega), ← e (32744 + 1) (by omega)]
    exact a
  · rcases a with ⟨a1, e⟩ | ⟨a1, _⟩ | ⟨a1, _⟩ | ⟨a1, _⟩
    · exact Or.inl ⟨a1, e⟩
    · exact absurd a1 q
    · exact absurd a1 q
    · exact absurd a1 q
/-! the class: bytes of the cartridge -/
def zCb (σ : zSt) (j : Nat) : Int32 := σ.1 (ztp (σ.1 1 1)) ((σ.1 1 3).toNatClampNeg + j)
theorem p_romByte {σ : zSt} {x : Int32} (h0 : 0 ≤ x.toInt) (h1 : x.toInt < (σ.1 1 4).toInt) (hb : zr 0 512 (σ.1 1 3)) (hz : (σ.1 1 4).toInt ≤ 262144) : zpc (fX2_romByte σ x) (fun r => r.1 = σ ∧ r.2 = zCb σ x.toNatClampNeg) := by
  unfold fX2_romByte fX2_romByte_26 fX2_romByte_29
  have c0 : (0 : Int32).toInt = 0 := rfl
  refine zpc_if (fun q => ?_) (fun _ => zpc_if (fun q => ?_) (fun _ => zpc_ck (zpc_some ⟨rfl, ?_⟩)))
  · have := Int32.lt_iff_toInt_lt.mp q; exfalso; omega
  · have := Int32.le_iff_toInt_le.mp q
    have : (zgi σ 1 4).toInt = (σ.1 1 4).toInt := rfl
    exfalso
    omega
  · have t : (σ.1 1 3 + x).toInt = (σ.1 1 3).toInt + x.toInt := z_tadd (c := 0) (d := 262144) hb ⟨h0, by omega⟩ (by decide)
    have b1 := hb.1
    have k := z_clamp (x := σ.1 1 3 + x) (by omega)
    have k1 := z_clamp (x := σ.1 1 3) b1
    have k2 := z_clamp (x := x) h0
    show σ.1 (ztp (σ.1 1 1)) (σ.1 1 3 + x).toNatClampNeg = σ.1 (ztp (σ.1 1 1)) ((σ.1 1 3).toNatClampNeg + x.toNatClampNeg)
    rw [show (σ.1 1 3 + x).toNatClampNeg = (σ.1 1 3).toNatClampNeg + x.toNatClampNeg by omega]
section ZCARD
variable {σ : zSt}
theorem p_head_41 {k9 : zSt → Int32 → Int32 → Option (zSt × Int32)} {x2 x3 x4 : Int32} {Q : zSt × Int32 → Prop} (hb : zr 0 512 (σ.1 1 3)) (hz : zr 0 262144 (σ.1 1 4)) (h4 : 0 ≤ x4.toInt) (h5 : x4.toInt + 16 ≤ (σ.1 1 4).toInt) (yes : zHm (zCb σ) x4.toNatClampNeg → Q (σ, x4)) (no : ¬ zHm (zCb σ) x4.toNatClampNeg → zpc (k9 σ x2 (x3 + 1)) Q) : ∀ (n : Nat) (x5 x6 : Int32), zr 0 8 x6 → ((x5 = 1 ∧ ∀ i : Nat, (i : Int) < x6.toInt → zCb σ (x4.toNatClampNeg + i) = zt0 i) ∨ (x5 = 0 ∧ ¬ zHm (zCb σ) x4.toNatClampNeg)) → zpc (fX2_findHeader_41 k9 n σ x2 x3 x4 x5 x6) Q := by
  intro n
  induction n with
  | zero => intro x5 x6 _ _; exact zpc_none
  | succ n ih =>
    intro x5 x6 h6 hI
    show zpc (fX2_findHeader_41_body k9 (fX2_findHeader_41 k9 n) σ x2 x3 x4 x5 x6) _
    unfold fX2_findHeader_41_body
    have c8 : (8 : Int32).toInt = 8 := rfl
    have b6 := h6.1
    have b62 := h6.2
    have hz2 := hz.2
    have k4 := z_clamp h4
    have k6 := z_clamp b6
    have out : ((x5 = 1 ∧ zHm (zCb σ) x4.toNatClampNeg) ∨ (x5 = 0 ∧ ¬ zHm (zCb σ) x4.toNatClampNeg)) → zpc (fX2_findHeader_84 k9 σ x2 x3 x4 x5) Q := fun a => by
      unfold fX2_findHeader_84
      refine zpc_if (fun q => ?_) (fun q => ?_)
      · rcases a with ⟨a1, _⟩ | ⟨_, a2⟩
        · rw [a1] at q; exact absurd q (by decide)
        · exact zpc_bv (fun v e => by subst e; exact no a2)
      · rcases a with ⟨_, a2⟩ | ⟨a1, _⟩
        · exact zpc_some (yes a2)
        · exact absurd a1 q
    refine zpc_if (fun q => ?_) (fun q => zpc_if (fun q1 => ?_) (fun q1 => ?_))
    · have q2 := Int32.le_iff_toInt_le.mp q
      rcases hI with ⟨a1, a2⟩ | a
      · exact out (Or.inl ⟨a1, fun i hi => a2 i (by omega)⟩)
      · exact out (Or.inr a)
    · rcases hI with ⟨a1, _⟩ | a
      · rw [a1] at q1; exact absurd q1 (by decide)
      · exact out (Or.inr a)
    · have q2 := Int32.lt_iff_toInt_lt.mp (z_nle q)
      rcases hI with ⟨a1, a2⟩ | a
      · have t : (x4 + x6).toInt = x4.toInt + x6.toInt := z_tadd (a := 0) (b := 262144) (c := 0) (d := 8) ⟨h4, by omega⟩ h6 (by decide)
        have ks := z_clamp (x := x4 + x6) (by omega)
        refine zpc_bi (p_romByte (x := x4 + x6) (by omega) (by omega) hb hz2) (fun σ1 v4 p => ?_)
        obtain ⟨p1, p2⟩ := p
        have p1 : σ1 = σ := p1
        have p2 : v4 = zCb σ (x4 + x6).toNatClampNeg := p2
        subst p1
        rw [show (x4 + x6).toNatClampNeg = x4.toNatClampNeg + x6.toNatClampNeg by omega] at p2
        have c1 : (1 : Int32).toInt = 1 := rfl
        have t6 : (x6 + 1).toInt = x6.toInt + (1 : Int32).toInt := z_tadd h6 (zr_c (lo := 1) (hi := 1) (by decide)) (by decide)
        unfold fX2_findHeader_76
        refine zpc_ck (zpc_if (fun r => zpc_bv (fun v e => ?_)) (fun r => zpc_bv (fun v e => ?_)))
        · subst e
          refine ih 1 (x6 + 1) ⟨by omega, by omega⟩ (Or.inl ⟨rfl, fun i hi => ?_⟩)
          by_cases qi : i = x6.toNatClampNeg
          · rw [qi, ← p2]; exact r
          · exact a2 i (by omega)
        · subst e
          refine ih 0 (x6 + 1) ⟨by omega, by omega⟩ (Or.inr ⟨rfl, fun m => r ?_⟩)
          rw [p2]
          exact m _ (by omega)
      · exact absurd a.1 q1
theorem p_head_9 {x3 : Int32} {Q : zSt × Int32 → Prop} (hb : zr 0 512 (σ.1 1 3)) (hz : zr 0 262144 (σ.1 1 4)) {i : Nat} (h3 : x3 = Int32.ofNat i) (hi : i < 3) {n : Nat} (yes : zHp (σ.1 1 4) (zCb σ) (zt1 i).toNatClampNeg → Q (σ, zt1 i)) (no : ¬ zHp (σ.1 1 4) (zCb σ) (zt1 i).toNatClampNeg → zpc (fX2_findHeader_9 n σ 3 (x3 + 1)) Q) : zpc (fX2_findHeader_9 (n + 1) σ 3 x3) Q := by
  show zpc (fX2_findHeader_9_body (fX2_findHeader_9 n) σ 3 x3) _
  unfold fX2_findHeader_9_body fX2_findHeader_36
  have l3 : ∀ i : Fin 3, ¬ (3 : Int32) ≤ Int32.ofNat i.val ∧ (Int32.ofNat i.val).toNatClampNeg = i.val ∧ 0 ≤ (zt1 i.val).toInt ∧ (zt1 i.val).toInt ≤ 32752 := by decide +kernel
  obtain ⟨l1, l2, l4, l5⟩ := l3 ⟨i, hi⟩
  have l1 : ¬ (3 : Int32) ≤ x3 := by rw [h3]; exact l1
  have l2 : x3.toNatClampNeg = i := by rw [h3]; exact l2
  have l4 : 0 ≤ (zt1 i).toInt := l4
  have l5 : (zt1 i).toInt ≤ 32752 := l5
  refine zpc_if (fun q => absurd q l1) (fun _ => zpc_ck (zpc_bv (fun v5 e5 => ?_)))
  rw [l2] at e5
  subst e5
  have c6 : (16 : Int32).toInt = 16 := rfl
  have t : (zt1 i + 16).toInt = (zt1 i).toInt + (16 : Int32).toInt := z_tadd (a := 0) (b := 32752) ⟨l4, l5⟩ (zr_c (lo := 16) (hi := 16) (by decide)) (by decide)
  have k := z_clamp l4
  refine zpc_if (fun q => ?_) (fun q => ?_)
  · have q1 := Int32.lt_iff_toInt_lt.mp q
    have g : (zgi σ 1 4).toInt = (σ.1 1 4).toInt := rfl
    have nh : ¬ zHp (σ.1 1 4) (zCb σ) (zt1 i).toNatClampNeg := fun r => by have := r.1; omega
    -- the places are too far: 0 at once
    obtain ⟨m, hm⟩ : ∃ m, zfuel = m + 1 := ⟨1999999, rfl⟩
    rw [hm]
    show zpc (fX2_findHeader_41_body (fX2_findHeader_9 n) (fX2_findHeader_41 (fX2_findHeader_9 n) m) σ 3 x3 (zt1 i) 0 0) Q
    unfold fX2_findHeader_41_body fX2_findHeader_84
    refine zpc_if (fun r => absurd r (by decide)) (fun _ => zpc_if (fun _ => zpc_if (fun _ => zpc_bv (fun v e => ?_)) (fun r => absurd rfl r)) (fun r => absurd rfl r))
    subst e
    exact no nh
  · have q1 := Int32.le_iff_toInt_le.mp (z_nlt q)
    have g : (zgi σ 1 4).toInt = (σ.1 1 4).toInt := rfl
    refine p_head_41 hb hz l4 (by omega) (fun m => yes ⟨by omega, m⟩) (fun m => no (fun r => m r.2)) zfuel 1 0 (zr_c (by decide)) (Or.inl ⟨rfl, fun i hi => ?_⟩)
    have : (0 : Int32).toInt = 0 := rfl
    exfalso
    omega
theorem p_header (hb : zr 0 512 (σ.1 1 3)) (hz : zr 0 262144 (σ.1 1 4)) : zpc (fX2_findHeader σ ) (fun r => r.1 = σ ∧ zIsH (σ.1 1 4) (zCb σ) r.2) := by
  unfold fX2_findHeader
  obtain ⟨m, hm⟩ : ∃ m, zfuel = m + 1 + 1 + 1 + 1 := ⟨1999996, rfl⟩
  rw [hm]
  refine p_head_9 (i := 0) hb hz rfl (by decide) (fun y => ⟨rfl, Or.inl ⟨y, rfl⟩⟩) (fun n0 => ?_)
  refine p_head_9 (i := 1) hb hz (by decide) (by decide) (fun y => ⟨rfl, Or.inr (Or.inl ⟨n0, y, rfl⟩)⟩) (fun n1 => ?_)
  refine p_head_9 (i := 2) hb hz (by decide) (by decide) (fun y => ⟨rfl, Or.inr (Or.inr (Or.inl ⟨n0, n1, y, rfl⟩))⟩) (fun n2 => ?_)
  show zpc (fX2_findHeader_9_body (fX2_findHeader_9 m) σ 3 (0 + 1 + 1 + 1)) _
  unfold fX2_findHeader_9_body
  exact zpc_if (fun _ => zpc_some ⟨rfl, Or.inr (Or.inr (Or.inr ⟨n0, n1, n2, rfl⟩))⟩) (fun r => absurd (by decide) r)
theorem p_romWord {x : Int32} (h0 : 0 ≤ x.toInt) (h1 : x.toInt + 1 < (σ.1 1 4).toInt) (hb : zr 0 512 (σ.1 1 3)) (hz : zr 0 262144 (σ.1 1 4)) : zpc (fX2_romWord σ x) (fun r => r.1 = σ ∧ r.2 = zWd (zCb σ) x.toNatClampNeg) := by
  unfold fX2_romWord
  have hz2 := hz.2
  refine zpc_bi (p_romByte h0 (by omega) hb hz2) (fun σ1 v2 p => ?_)
  obtain ⟨p1, p2⟩ := p
  have p1 : σ1 = σ := p1
  subst p1
  have c1 : (1 : Int32).toInt = 1 := rfl
  have t : (x + 1).toInt = x.toInt + (1 : Int32).toInt := z_tadd (a := 0) (b := 262144) ⟨h0, by omega⟩ (zr_c (lo := 1) (hi := 1) (by decide)) (by decide)
  have k := z_clamp h0
  have k1 := z_clamp (x := x + 1) (by omega)
  refine zpc_bi (p_romByte (x := x + 1) (by omega) (by omega) hb hz2) (fun σ3 v4 p => ?_)
  obtain ⟨r1, r2⟩ := p
  have r1 : σ3 = σ1 := r1
  subst r1
  have p2 : v2 = zCb σ3 x.toNatClampNeg := p2
  have r2 : v4 = zCb σ3 (x + 1).toNatClampNeg := r2
  refine zpc_some ⟨rfl, ?_⟩
  show v2 + (256 * v4) = zCb σ3 x.toNatClampNeg + 256 * zCb σ3 (x.toNatClampNeg + 1)
  rw [p2, r2, show (x + 1).toNatClampNeg = x.toNatClampNeg + 1 by omega]
theorem p_paging (hb : zr 0 512 (σ.1 1 3)) (hz : zr 0 262144 (σ.1 1 4)) : zpc (fX2_findPaging σ ) (fun r => r.1 = σ ∧ zIsP (σ.1 1 4) (zCb σ) (σ.1 1 7) r.2) := by
  unfold fX2_findPaging fX2_findPaging_45
  refine zpc_if (fun q => ?_) (fun q => zpc_some ⟨rfl, Or.inl ⟨q, rfl⟩⟩)
  have q1 := Int32.lt_iff_toInt_lt.mp q
  have c : (49152 : Int32).toInt = 49152 := rfl
  have g : (zgi σ 1 4).toInt = (σ.1 1 4).toInt := rfl
  have c1 : (32742 : Int32).toInt = 32742 := rfl
  have c2 : (32744 : Int32).toInt = 32744 := rfl
  refine zpc_bi (p_romWord (x := 32742) (by omega) (by omega) hb hz) (fun σ1 v2 p => ?_)
  obtain ⟨p1, p2⟩ := p
  have p1 : σ1 = σ := p1
  subst p1
  refine zpc_bi (p_romWord (x := 32744) (by omega) (by omega) hb hz) (fun σ3 v4 p => ?_)
  obtain ⟨r1, r2⟩ := p
  have r1 : σ3 = σ1 := r1
  subst r1
  have p2 : v2 = zWd (zCb σ3) 32742 := p2
  have r2 : v4 = zWd (zCb σ3) 32744 := r2
  rw [p2, r2]
  refine zpc_if (fun s => zpc_some ⟨rfl, Or.inr (Or.inl ⟨q, s, rfl⟩)⟩) (fun s => zpc_if (fun u => zpc_some ⟨rfl, Or.inr (Or.inr (Or.inl ⟨q, s, u, rfl⟩))⟩) (fun u => zpc_some ⟨rfl, Or.inr (Or.inr (Or.inr ⟨q, s, u, rfl⟩))⟩))
end ZCARD
end ZJN3
section ZJN4
/-! the reference's load -/
def zMb (μ : zSt) (j : Nat) : Int32 := μ.1 2 j &&& 255
def zMid (z bk : Int32) (B : Nat → Int32) (μ : zSt) : Prop := μ.1 0 5 = z ∧ μ.1 0 6 = bk ∧ ∀ j : Nat, (j : Int) < z.toInt → μ.1 2 j &&& 255 = B j
def zFin (z bk : Int32) (B : Nat → Int32) (r : zSt × Int32) : Prop := zMid z bk B r.1 ∧ zIsH z B (r.1.1 0 8) ∧ zIsP z B (r.1.1 0 8) (r.1.1 0 7) ∧ (0 ≤ (r.1.1 0 8).toInt → r.1.1 0 9 = zSum z (r.1.1 0 8) B)
theorem zMid.w {z bk : Int32} {B : Nat → Int32} {μ μ1 : zSt} {j : Nat} {v : Int32} (h : zMid z bk B μ) (e : μ1 = zsi μ 0 j v) (c : ¬ 5 = j ∧ ¬ 6 = j) : zMid z bk B μ1 := by
  subst e
  refine ⟨?_, ?_, fun i hi => ?_⟩
  · rw [zsi_nj c.1]; exact h.1
  · rw [zsi_nj c.2]; exact h.2.1
  · rw [zsi_ne (by decide)]; exact h.2.2 i hi
theorem zSm_cong {b b' : Nat → Int32} : ∀ (n i : Nat) (a : Int32), (∀ j, i ≤ j → j < i + n → b j = b' j) → zSm b n i a = zSm b' n i a := by
  intro n
  induction n with
  | zero => intro i a _; rfl
  | succ n ih =>
    intro i a h
    show zSm b n (i + 1) (a + b i) = zSm b' n (i + 1) (a + b' i)
    rw [h i (by omega) (by omega)]
    exact ih (i + 1) _ (fun j h1 h2 => h j (by omega) (by omega))
theorem zSum_cong {z h : Int32} {b b' : Nat → Int32} (e : ∀ j : Nat, (j : Int) < z.toInt → b j = b' j) (h0 : 0 ≤ h.toInt) (h1 : h.toInt + 16 ≤ z.toInt) : zSum z h b = zSum z h b' := by
  have kh := z_clamp h0
  have kz := z_clamp (x := z) (by omega)
  unfold zSum
  rw [zSm_cong (b := b) (b' := b') h.toNatClampNeg 0 0 (fun j _ h2 => e j (by omega)), zSm_cong (b := b) (b' := b') (z.toNatClampNeg - 32768) 32768 _ (fun j h1 h2 => e j (by omega)), e (h.toNatClampNeg + 15) (by omega)]
theorem z_and15 {x : Int32} : x &&& 15 = (x &&& 255) &&& 15 := by
  rw [Int32.and_assoc, show (255 : Int32) &&& 15 = 15 by decide]
section ZLOAD
variable {z bk : Int32} {B : Nat → Int32}
theorem d_404 {μ : zSt} {s0 : Int32} (hm : zMid z bk B μ) (hh : zIsH z B (μ.1 0 8)) (hp : zIsP z B (μ.1 0 8) (μ.1 0 7)) (hs : 0 ≤ (μ.1 0 8).toInt → s0 = zSum z (μ.1 0 8) B) : zpc (fX12_load_404 μ s0) (zFin z bk B) := by
  unfold fX12_load_404
  refine zpc_bv (fun μ1 e1 => ?_)
  have k1 : zKeM μ1 μ1 := ⟨rfl, rfl, fun _ _ => rfl⟩
  refine zpc_bu (w_fX12_anew k1) (fun μ2 k2 => zpc_mono (w_fX12_load_414 (σ0 := μ1) _ _ _ k2) (fun r k => ?_))
  obtain ⟨_, a2, a3⟩ := k
  have m1 : zMid z bk B μ1 := hm.w e1 (by decide)
  have e8 : r.1.1 0 8 = μ.1 0 8 := (a3 8 (by decide)).trans (by rw [e1]; exact zsi_nj (by decide))
  have e7 : r.1.1 0 7 = μ.1 0 7 := (a3 7 (by decide)).trans (by rw [e1]; exact zsi_nj (by decide))
  have e9 : r.1.1 0 9 = s0 := (a3 9 (by decide)).trans (by rw [e1]; exact zsi_ej)
  refine ⟨⟨(a3 5 (by decide)).trans m1.1, (a3 6 (by decide)).trans m1.2.1, fun j hj => by rw [a2]; exact m1.2.2 j hj⟩, ?_, ?_, ?_⟩
  · rw [e8]; exact hh
  · rw [e8, e7]; exact hp
  · rw [e8, e9]; exact hs
theorem d_385 {μ : zSt} (hm : zMid z bk B μ) (hh : zIsH z B (μ.1 0 8)) (hp : zIsP z B (μ.1 0 8) (μ.1 0 7)) (hs : 0 ≤ (μ.1 0 8).toInt → μ.1 0 9 &&& 65535 = zSum z (μ.1 0 8) B) : zpc (fX12_load_385 μ ) (zFin z bk B) := by
  unfold fX12_load_385
  have c0 : (0 : Int32).toInt = 0 := rfl
  refine zpc_if (fun q => d_404 hm hh hp hs) (fun q => d_404 hm hh hp (fun r => absurd (Int32.le_iff_toInt_le.mpr (by rw [c0]; exact r)) q))
/-- the second loop, where the bytes from 32768 on count -/
theorem d_337 {x5 : Int32} {S : Int32} (hl : 13 < x5 ∨ ¬ 3 ≤ x5) (hz : zr 0 262144 z) : ∀ (n : Nat) (μ : zSt) (x6 : Int32), zr 32768 262144 x6 → zMid z bk B μ → zIsH z B (μ.1 0 8) → zIsP z B (μ.1 0 8) (μ.1 0 7) → zSm B (z.toNatClampNeg - x6.toNatClampNeg) x6.toNatClampNeg (μ.1 0 9) = S → (0 ≤ (μ.1 0 8).toInt → S &&& 65535 = zSum z (μ.1 0 8) B) → zpc (fX12_load_337 n μ x5 x6) (zFin z bk B) := by
  intro n
  induction n with
  | zero => intro μ x6 _ _ _ _ _ _; exact zpc_none
  | succ n ih =>
    intro μ x6 h6 hm hh hp hS hs
    show zpc (fX12_load_337_body (fX12_load_337 n) μ x5 x6) _
    unfold fX12_load_337_body
    have b6 := h6.1
    have k6 := z_clamp (x := x6) (by omega)
    have kz := z_clamp hz.1
    have z2 := hz.2
    have g5 : zgi μ 0 5 = z := hm.1
    rw [g5]
    have go : ¬ z ≤ x6 → zpc (fX12_load_359 (fX12_load_337 n) μ x5 x6) (zFin z bk B) := fun q => by
      have q1 := Int32.lt_iff_toInt_lt.mp (z_nle q)
      unfold fX12_load_359
      refine zpc_ck (zpc_bv (fun μ1 e1 => zpc_bv (fun v e => ?_)))
      subst e
      have c1 : (1 : Int32).toInt = 1 := rfl
      have t : (x6 + 1).toInt = x6.toInt + (1 : Int32).toInt := z_tadd h6 (zr_c (lo := 1) (hi := 1) (by decide)) (by decide)
      have k7 := z_clamp (x := x6 + 1) (by omega)
      have e8 : μ1.1 0 8 = μ.1 0 8 := by rw [e1]; exact zsi_nj (by decide)
      have e7 : μ1.1 0 7 = μ.1 0 7 := by rw [e1]; exact zsi_nj (by decide)
      have e9 : μ1.1 0 9 = μ.1 0 9 + B x6.toNatClampNeg := by
        rw [e1, zsi_ej, ← hm.2.2 x6.toNatClampNeg (by omega)]
        rfl
      refine ih μ1 (x6 + 1) ⟨by omega, by omega⟩ (hm.w e1 (by decide)) (by rw [e8]; exact hh) (by rw [e8, e7]; exact hp) ?_ (by rw [e8]; exact hs)
      rw [← hS, e9, show (x6 + 1).toNatClampNeg = x6.toNatClampNeg + 1 by omega, show z.toNatClampNeg - x6.toNatClampNeg = (z.toNatClampNeg - (x6.toNatClampNeg + 1)) + 1 by omega]
      rfl
    have stop : z ≤ x6 → zpc (fX12_load_385 μ ) (zFin z bk B) := fun q => by
      have q1 := Int32.le_iff_toInt_le.mp q
      rw [show z.toNatClampNeg - x6.toNatClampNeg = 0 by omega] at hS
      have hS : μ.1 0 9 = S := hS
      exact d_385 hm hh hp (fun r => by rw [hS]; exact hs r)
    refine zpc_if (fun q => stop q) (fun q => zpc_if (fun _ => go q) (fun q1 => zpc_if (fun q2 => ?_) (fun _ => go q)))
    rcases hl with a | a
    · exact absurd a q1
    · exact absurd q2 a
theorem d_337s {x5 : Int32} (h1 : ¬ 13 < x5) (h2 : 3 ≤ x5) {n : Nat} {μ : zSt} (hm : zMid z bk B μ) (hh : zIsH z B (μ.1 0 8)) (hp : zIsP z B (μ.1 0 8) (μ.1 0 7)) (hs : 0 ≤ (μ.1 0 8).toInt → μ.1 0 9 &&& 65535 = zSum z (μ.1 0 8) B) : zpc (fX12_load_337 n μ x5 32768) (zFin z bk B) := by
  cases n with
  | zero => exact zpc_none
  | succ n =>
    show zpc (fX12_load_337_body (fX12_load_337 n) μ x5 32768) _
    unfold fX12_load_337_body
    exact zpc_if (fun _ => d_385 hm hh hp hs) (fun _ => zpc_if (fun q => absurd q h1) (fun _ => zpc_if (fun _ => d_385 hm hh hp hs) (fun q => absurd h2 q)))
/-- the first loop -/
theorem d_298 {x5 h : Int32} (hz : zr 0 262144 z) (hhz : h.toInt < z.toInt) (hc : 0 ≤ h.toInt → x5 = B (h.toNatClampNeg + 15) &&& 15) : ∀ (n : Nat) (μ : zSt) (x6 : Int32), μ.1 0 8 = h → 0 ≤ x6.toInt → x6.toInt ≤ 262144 → zMid z bk B μ → zIsH z B h → zIsP z B h (μ.1 0 7) → (0 ≤ h.toInt → x6.toInt ≤ h.toInt ∧ zSm B (h.toNatClampNeg - x6.toNatClampNeg) x6.toNatClampNeg (μ.1 0 9) = zSm B h.toNatClampNeg 0 0) → zpc (fX12_load_298 n μ x5 x6) (zFin z bk B) := by
  intro n
  induction n with
  | zero => intro μ x6 _ _ _ _ _ _ _; exact zpc_none
  | succ n ih =>
    intro μ x6 e8 h0 h6 hm hh hp hS
    show zpc (fX12_load_298_body (fX12_load_298 n) μ x5 x6) _
    unfold fX12_load_298_body
    have k6 := z_clamp h0
    have z2 := hz.2
    rw [show zgi μ 0 8 = h from e8]
    refine zpc_if (fun q => ?_) (fun q => ?_)
    · have q1 := Int32.le_iff_toInt_le.mp q
      have hs9 : 0 ≤ h.toInt → μ.1 0 9 = zSm B h.toNatClampNeg 0 0 := fun r => by
        obtain ⟨s1, s2⟩ := hS r
        have kh := z_clamp r
        rw [show h.toNatClampNeg - x6.toNatClampNeg = 0 by omega] at s2
        exact s2
      by_cases q2 : 13 < x5
      · refine d_337 (S := zSm B (z.toNatClampNeg - 32768) 32768 (μ.1 0 9)) (Or.inl q2) hz zfuel μ 32768 (zr_c (by decide)) hm (by rw [e8]; exact hh) (by rw [e8]; exact hp) rfl (fun r => ?_)
        rw [e8] at r ⊢
        unfold zSum
        rw [← hc r, if_pos q2, hs9 r]
      · by_cases q3 : 3 ≤ x5
        · refine d_337s q2 q3 hm (by rw [e8]; exact hh) (by rw [e8]; exact hp) (fun r => ?_)
          rw [e8] at r ⊢
          unfold zSum
          rw [← hc r, if_neg q2, if_pos q3, hs9 r]
        · refine d_337 (S := zSm B (z.toNatClampNeg - 32768) 32768 (μ.1 0 9)) (Or.inr q3) hz zfuel μ 32768 (zr_c (by decide)) hm (by rw [e8]; exact hh) (by rw [e8]; exact hp) rfl (fun r => ?_)
          rw [e8] at r ⊢
          unfold zSum
          rw [← hc r, if_neg q2, if_neg q3, hs9 r]
    · have q1 := Int32.lt_iff_toInt_lt.mp (z_nle q)
      refine zpc_ck (zpc_bv (fun μ1 e1 => zpc_bv (fun v e => ?_)))
      subst e
      have c1 : (1 : Int32).toInt = 1 := rfl
      have t : (x6 + 1).toInt = x6.toInt + (1 : Int32).toInt := z_tadd (a := 0) (b := 262144) ⟨h0, h6⟩ (zr_c (lo := 1) (hi := 1) (by decide)) (by decide)
      have k7 := z_clamp (x := x6 + 1) (by omega)
      have f8 : μ1.1 0 8 = h := by rw [e1, zsi_nj (by decide)]; exact e8
      have f7 : μ1.1 0 7 = μ.1 0 7 := by rw [e1]; exact zsi_nj (by decide)
      have f9 : μ1.1 0 9 = μ.1 0 9 + B x6.toNatClampNeg := by
        rw [e1, zsi_ej, ← hm.2.2 x6.toNatClampNeg (by omega)]
        rfl
      refine ih μ1 (x6 + 1) f8 (by omega) (by omega) (hm.w e1 (by decide)) hh (by rw [f7]; exact hp) (fun r => ⟨by omega, ?_⟩)
      obtain ⟨s1, s2⟩ := hS r
      have kh := z_clamp r
      rw [← s2, f9, show (x6 + 1).toNatClampNeg = x6.toNatClampNeg + 1 by omega, show h.toNatClampNeg - x6.toNatClampNeg = (h.toNatClampNeg - (x6.toNatClampNeg + 1)) + 1 by omega]
      rfl
theorem zIsH.lt {h : Int32} (a : zIsH z B h) (hz : 0 ≤ z.toInt) : h.toInt < z.toInt ∧ (0 ≤ h.toInt → h.toInt + 16 ≤ z.toInt) := by
  rcases a with ⟨a1, e⟩ | ⟨_, a1, e⟩ | ⟨_, _, a1, e⟩ | ⟨_, _, _, e⟩
  · have := a1.1; rw [e, show (32752 : Int32).toInt = 32752 from rfl]; omega
  · have := a1.1; rw [e, show (16368 : Int32).toInt = 16368 from rfl]; omega
  · have := a1.1; rw [e, show (8176 : Int32).toInt = 8176 from rfl]; omega
  · rw [e, show (-1 : Int32).toInt = -1 from rfl]; omega
theorem d_259 {μ : zSt} {s0 : Int32} (hz : zr 0 262144 z) (hm : zMid z bk B μ) (hh : zIsH z B (μ.1 0 8)) (hp : zIsP z B (μ.1 0 8) s0) : zpc (fX12_load_259 μ s0) (zFin z bk B) := by
  unfold fX12_load_259 fX12_load_293
  refine zpc_bv (fun μ1 e1 => zpc_bv (fun μ2 e2 => ?_))
  have m2 := (hm.w e1 (by decide)).w e2 (by decide)
  have f8 : μ2.1 0 8 = μ.1 0 8 := by rw [e2, zsi_nj (by decide), e1]; exact zsi_nj (by decide)
  have f7 : μ2.1 0 7 = s0 := by rw [e2, zsi_nj (by decide), e1]; exact zsi_ej
  have f9 : μ2.1 0 9 = 0 := by rw [e2]; exact zsi_ej
  obtain ⟨l1, l2⟩ := hh.lt hz.1
  have z2 := hz.2
  have c0 : (0 : Int32).toInt = 0 := rfl
  rw [show zgi μ2 0 8 = μ.1 0 8 from f8]
  refine zpc_if (fun q => zpc_ck ?_) (fun q => ?_)
  · have q1 := Int32.le_iff_toInt_le.mp q
    rw [c0] at q1
    have l3 := l2 q1
    have t : (μ.1 0 8 + 15).toInt = (μ.1 0 8).toInt + (15 : Int32).toInt := z_tadd (a := 0) (b := 262144) ⟨q1, by omega⟩ (zr_c (lo := 15) (hi := 15) (by decide)) (by decide)
    have c5 : (15 : Int32).toInt = 15 := rfl
    have k := z_clamp q1
    have k1 := z_clamp (x := μ.1 0 8 + 15) (by omega)
    refine d_298 (h := μ.1 0 8) hz l1 (fun _ => ?_) zfuel μ2 0 f8 (by decide) (by decide) m2 hh (by rw [f7]; exact hp) (fun _ => ⟨q1, ?_⟩)
    · show μ2.1 2 (μ.1 0 8 + 15).toNatClampNeg &&& 15 = _
      rw [z_and15, m2.2.2 _ (by omega), show (μ.1 0 8 + 15).toNatClampNeg = (μ.1 0 8).toNatClampNeg + 15 by omega]
    · rw [f9]
      rfl
  · refine d_298 (h := μ.1 0 8) hz l1 (fun r => absurd (Int32.le_iff_toInt_le.mpr (by rw [c0]; exact r)) q) zfuel μ2 0 f8 (by decide) (by decide) m2 hh (by rw [f7]; exact hp) (fun r => absurd (Int32.le_iff_toInt_le.mpr (by rw [c0]; exact r)) q)
end ZLOAD
end ZJN4
section ZJN5
/-! words, paging, header in the reference -/
theorem z_word {x y : Int32} (hx : zr 0 255 x) (hy : zr 0 255 y) : (y <<< ((8 : Int32) &&& 31)) ||| x = x + 256 * y := by
  have x0 := hx.1
  have x1 := hx.2
  have y0 := hy.1
  have y1 := hy.2
  have nx := z_tN x0
  have ny := z_tN y0
  have e1 : (y <<< ((8 : Int32) &&& 31)).toBitVec = y.toBitVec <<< (((8 : Int32) &&& 31).toBitVec.smod 32).toNat := rfl
  have e2 : (y <<< ((8 : Int32) &&& 31)).toBitVec.toNat = 2 ^ 8 * y.toBitVec.toNat := by
    rw [e1, show (((8 : Int32) &&& 31).toBitVec.smod 32).toNat = 8 from rfl, BitVec.toNat_shiftLeft, Nat.shiftLeft_eq, Nat.mul_comm, Nat.mod_eq_of_lt (by omega)]
  have e3 : ((y <<< ((8 : Int32) &&& 31)) ||| x).toBitVec.toNat = 2 ^ 8 * y.toBitVec.toNat + x.toBitVec.toNat := by
    rw [Int32.toBitVec_or, BitVec.toNat_or, e2, Nat.two_pow_add_eq_or_of_lt (by omega)]
  have e4 := z_Nt e3 (by omega)
  have t1 := z_tmul (x := (256 : Int32)) (y := y) (zr_c (lo := 256) (hi := 256) (by decide)) hy (by decide)
  have r1 := zr_mul (lo := 0) (hi := 65280) (x := (256 : Int32)) (y := y) (zr_c (lo := 256) (hi := 256) (by decide)) hy (by decide)
  have t2 := z_tadd hx r1 (by decide)
  have c : (256 : Int32).toInt = 256 := rfl
  refine Int32.toInt_inj.mp ?_
  rw [e4, t2, t1, c]
  omega
theorem z_byte (x : Int32) : zr 0 255 (x &&& 255) := zr_andr (lo := 0) (hi := 255) (zr_c (lo := 255) (hi := 255) (by decide)) (by decide)
theorem p_bytesAt {μ : zSt} {x : Int32} (h : zr 0 262142 x) : zpc (fX12_bytesAt μ x 2) (fun r => r.1 = μ ∧ r.2 = zWd (zMb μ) x.toNatClampNeg) := by
  unfold fX12_bytesAt
  obtain ⟨m, hm⟩ : ∃ m, zfuel = m + 1 + 1 + 1 := ⟨1999997, rfl⟩
  refine zpc_bv (fun v3 e3 => ?_)
  subst e3
  rw [hm]
  show zpc (fX12_bytesAt_7_body (fX12_bytesAt_7 (m + 1 + 1)) μ x 0 (2 - 1)) _
  unfold fX12_bytesAt_7_body
  refine zpc_if (fun q => absurd q (by decide)) (fun _ => zpc_ck (zpc_bv (fun v1 e1 => zpc_bv (fun v2 e2 => ?_))))
  subst e2
  show zpc (fX12_bytesAt_7_body (fX12_bytesAt_7 (m + 1)) μ x v1 (2 - 1 + (-1))) _
  unfold fX12_bytesAt_7_body
  refine zpc_if (fun q => absurd q (by decide)) (fun _ => zpc_ck (zpc_bv (fun w1 f1 => zpc_bv (fun w2 f2 => ?_))))
  subst f2
  show zpc (fX12_bytesAt_7_body (fX12_bytesAt_7 m) μ x w1 (2 - 1 + (-1) + (-1))) _
  unfold fX12_bytesAt_7_body
  refine zpc_if (fun _ => zpc_some ⟨rfl, ?_⟩) (fun q => absurd (by decide) q)
  show w1 = zWd (zMb μ) x.toNatClampNeg
  have h0 := h.1
  have k := z_clamp h0
  have c1 : ((2 : Int32) - 1).toInt = 1 := rfl
  have t : (x + (2 - 1)).toInt = x.toInt + ((2 : Int32) - 1).toInt := z_tadd h (zr_c (lo := 1) (hi := 1) (x := 2 - 1) (by decide)) (by decide)
  have k1 := z_clamp (x := x + (2 - 1)) (by omega)
  have z0 : x + (2 - 1 + (-1)) = x := by rw [show ((2 : Int32) - 1 + (-1)) = 0 by decide, Int32.add_zero]
  have v : v1 = zMb μ (x.toNatClampNeg + 1) := by
    rw [e1, show ((0 : Int32) <<< ((8 : Int32) &&& 31)) = 0 by decide, Int32.zero_or]
    show μ.1 2 (x + (2 - 1)).toNatClampNeg &&& 255 = _
    rw [show (x + (2 - 1)).toNatClampNeg = x.toNatClampNeg + 1 by omega]
    rfl
  rw [f1, z0, v]
  exact z_word (z_byte _) (z_byte _)
theorem zWd_r {b : Nat → Int32} {p : Nat} (h0 : zr 0 255 (b p)) (h1 : zr 0 255 (b (p + 1))) : zr 0 65535 (zWd b p) := zr_add (lo := 0) (hi := 65535) h0 (zr_mul (lo := 0) (hi := 65280) (zr_c (lo := 256) (hi := 256) (by decide)) h1 (by decide)) (by decide)
section ZLOAD2
variable {z bk : Int32} {B : Nat → Int32}
theorem zMid.wd {μ : zSt} (hm : zMid z bk B μ) {p : Nat} (h : (p : Int) + 1 < z.toInt) : zWd (zMb μ) p = zWd B p := by
  unfold zWd zMb
  rw [hm.2.2 p (by omega), hm.2.2 (p + 1) (by omega)]
theorem d_247 {μ : zSt} (hz : zr 0 262144 z) (hm : zMid z bk B μ) (hh : zIsH z B (μ.1 0 8)) (q : 49152 < z) (ne : ¬ zWd B 32742 + zWd B 32744 = 65536) : zpc (fX12_load_247 μ ) (zFin z bk B) := by
  unfold fX12_load_247
  exact zpc_if (fun r => d_259 hz hm hh (Or.inr (Or.inr (Or.inl ⟨q, ne, r, rfl⟩)))) (fun r => d_259 hz hm hh (Or.inr (Or.inr (Or.inr ⟨q, ne, r, rfl⟩))))
theorem d_192 {μ : zSt} (hz : zr 0 262144 z) (hB : ∀ j, zr 0 255 (B j)) (hm : zMid z bk B μ) (hh : zIsH z B (μ.1 0 8)) {s0 : Int32} (h0 : 49152 < z → s0 = zWd B 32742) : zpc (fX12_load_192 μ s0) (zFin z bk B) := by
  unfold fX12_load_192
  have g5 : zgi μ 0 5 = z := hm.1
  have c : (49152 : Int32).toInt = 49152 := rfl
  have c0 : (0 : Int32).toInt = 0 := rfl
  have c6 : (65536 : Int32).toInt = 65536 := rfl
  rw [g5]
  refine zpc_if (fun q => ?_) (fun q => ?_)
  · have nq : ¬ 49152 < z := fun r => by have := Int32.lt_iff_toInt_lt.mp r; have := Int32.le_iff_toInt_le.mp q; omega
    unfold fX12_load_214
    rw [g5]
    exact zpc_if (fun r => absurd r nq) (fun _ => d_259 hz hm hh (Or.inl ⟨nq, rfl⟩))
  · have q1 := Int32.lt_iff_toInt_lt.mp (z_nle q)
    have yq : 49152 < z := Int32.lt_iff_toInt_lt.mpr (by omega)
    refine zpc_bi (p_bytesAt (x := 32744) (zr_c (by decide))) (fun μ1 v p => ?_)
    obtain ⟨p1, p2⟩ := p
    have p1 : μ1 = μ := p1
    subst p1
    have p2 : v = zWd (zMb μ1) 32744 := p2
    rw [hm.wd (by omega)] at p2
    unfold fX12_load_214
    rw [g5, h0 yq, p2]
    have r1 := zWd_r (hB 32742) (hB (32742 + 1))
    have r2 := zWd_r (hB 32744) (hB (32744 + 1))
    have t := z_tadd r1 r2 (by decide)
    refine zpc_if (fun _ => zpc_if (fun r => ?_) (fun r => zpc_if (fun s => ?_) (fun s => d_247 hz hm hh yq s))) (fun r => absurd yq r)
    · refine d_247 hz hm hh yq (fun s => ?_)
      have r3 := Int32.le_iff_toInt_le.mp r
      have r4 := r2.2
      rw [s, c6] at t
      omega
    · exact d_259 hz hm hh (Or.inr (Or.inl ⟨yq, s, rfl⟩))
/-- isHeader -/
theorem p_isH_15 {μ : zSt} {x1 : Int32} (hm : zMid z bk B μ) (h1 : 0 ≤ x1.toInt) (h2 : x1.toInt + 16 ≤ z.toInt) (hz : z.toInt ≤ 262144) : ∀ (n : Nat) (x2 : Int32), zr 0 8 x2 → (∀ i : Nat, (i : Int) < x2.toInt → B (x1.toNatClampNeg + i) = zt0 i) → zpc (fX12_isHeader_15 n μ x1 x2) (fun r => r.1 = μ ∧ ((zHm B x1.toNatClampNeg ∧ r.2 = 1) ∨ (¬ zHm B x1.toNatClampNeg ∧ r.2 = 0))) := by
  intro n
  induction n with
  | zero => intro x2 _ _; exact zpc_none
  | succ n ih =>
    intro x2 h3 hI
    show zpc (fX12_isHeader_15_body (fX12_isHeader_15 n) μ x1 x2) _
    unfold fX12_isHeader_15_body
    have c8 : (8 : Int32).toInt = 8 := rfl
    have b0 := h3.1
    have b8 := h3.2
    have k1 := z_clamp h1
    have k2 := z_clamp b0
    refine zpc_if (fun q => ?_) (fun q => zpc_ck ?_)
    · have q1 := Int32.le_iff_toInt_le.mp q
      have e8 : x2 = 8 := Int32.toInt_inj.mp (by omega)
      unfold fX12_isHeader_114 fX12_isHeader_125
      refine zpc_if (fun _ => zpc_ck (zpc_some ⟨rfl, Or.inl ⟨fun i hi => hI i (by omega), rfl⟩⟩)) (fun r => absurd e8 r)
    · have q1 := Int32.lt_iff_toInt_lt.mp (z_nle q)
      have t : (x1 + x2).toInt = x1.toInt + x2.toInt := z_tadd (a := 0) (b := 262144) (c := 0) (d := 8) ⟨h1, by omega⟩ h3 (by decide)
      have ks := z_clamp (x := x1 + x2) (by omega)
      have by1 : (zgi μ 2 (x1 + x2).toNatClampNeg) &&& 255 = B (x1.toNatClampNeg + x2.toNatClampNeg) := by
        rw [← hm.2.2 _ (by omega), show (x1 + x2).toNatClampNeg = x1.toNatClampNeg + x2.toNatClampNeg by omega]
        rfl
      rw [by1]
      have go : ∀ s0, s0 = zt0 x2.toNatClampNeg → zpc (fX12_isHeader_105 (fX12_isHeader_15 n) μ x1 x2 s0 (B (x1.toNatClampNeg + x2.toNatClampNeg))) (fun r => r.1 = μ ∧ ((zHm B x1.toNatClampNeg ∧ r.2 = 1) ∨ (¬ zHm B x1.toNatClampNeg ∧ r.2 = 0))) := fun s0 e0 => by
        unfold fX12_isHeader_105 fX12_isHeader_114 fX12_isHeader_125
        rw [e0]
        refine zpc_if (fun r => zpc_bv (fun v e => ?_)) (fun r => ?_)
        · subst e
          have c1 : (1 : Int32).toInt = 1 := rfl
          have t2 : (x2 + 1).toInt = x2.toInt + (1 : Int32).toInt := z_tadd h3 (zr_c (lo := 1) (hi := 1) (by decide)) (by decide)
          refine ih (x2 + 1) ⟨by omega, by omega⟩ (fun i hi => ?_)
          by_cases qi : i = x2.toNatClampNeg
          · rw [qi]; exact r
          · exact hI i (by omega)
        · refine zpc_if (fun s => ?_) (fun _ => zpc_ck (zpc_some ⟨rfl, Or.inr ⟨fun m => r (m _ (by omega)), rfl⟩⟩))
          rw [s] at q1
          exact absurd q1 (by decide)
      have lit : ∀ m : Nat, x2 = Int32.ofNat m → m < 8 → x2.toNatClampNeg = m := fun m e hm => by
        rw [e]
        have k : ∀ i : Fin 8, (Int32.ofNat i.val).toNatClampNeg = i.val := by decide
        exact k ⟨m, hm⟩
      refine zpc_if (fun r => go _ (by rw [lit 0 r (by decide)]; rfl)) (fun r0 => zpc_if (fun r => go _ (by rw [lit 1 r (by decide)]; rfl)) (fun r1 => zpc_if (fun r => go _ (by rw [lit 2 r (by decide)]; rfl)) (fun r2 => zpc_if (fun r => go _ (by rw [lit 3 r (by decide)]; rfl)) (fun r3 => zpc_if (fun r => go _ (by rw [lit 4 r (by decide)]; rfl)) (fun r4 => zpc_if (fun r => go _ (by rw [lit 5 r (by decide)]; rfl)) (fun r5 => zpc_if (fun r => go _ (by rw [lit 6 r (by decide)]; rfl)) (fun r6 => ?_)))))))
      have e7 : x2 = Int32.ofNat 7 := by
        obtain ⟨i, hi⟩ : ∃ i : Nat, x2.toInt = i := ⟨x2.toInt.toNat, by omega⟩
        have e := z_ofN hi
        have n0 : ∀ m : Nat, ¬ x2 = Int32.ofNat m → ¬ i = m := fun m h r => h (by rw [e, r])
        have a0 := n0 0 r0
        have a1 := n0 1 r1
        have a2 := n0 2 r2
        have a3 := n0 3 r3
        have a4 := n0 4 r4
        have a5 := n0 5 r5
        have a6 := n0 6 r6
        rw [e, show i = 7 by omega]
      exact go _ (by rw [lit 7 e7 (by decide)]; rfl)
theorem p_isH {μ : zSt} {x1 : Int32} (hm : zMid z bk B μ) (h1 : zr 0 32752 x1) (hz : zr 0 262144 z) : zpc (fX12_isHeader μ x1) (fun r => r.1 = μ ∧ ((zHp z B x1.toNatClampNeg ∧ r.2 = 1) ∨ (¬ zHp z B x1.toNatClampNeg ∧ r.2 = 0))) := by
  unfold fX12_isHeader
  have c6 : (16 : Int32).toInt = 16 := rfl
  have t : (x1 + 16).toInt = x1.toInt + (16 : Int32).toInt := z_tadd h1 (zr_c (lo := 16) (hi := 16) (by decide)) (by decide)
  have k1 := z_clamp h1.1
  rw [show zgi μ 0 5 = z from hm.1]
  refine zpc_if (fun q => ?_) (fun q => ?_)
  · have q1 := Int32.le_iff_toInt_le.mp q
    refine zpc_mono (p_isH_15 hm h1.1 (by omega) hz.2 zfuel 0 (zr_c (by decide)) (fun i hi => ?_)) (fun r p => ⟨p.1, ?_⟩)
    · have : (0 : Int32).toInt = 0 := rfl
      exfalso
      omega
    · rcases p.2 with ⟨a, b⟩ | ⟨a, b⟩
      · exact Or.inl ⟨⟨by omega, a⟩, b⟩
      · exact Or.inr ⟨fun m => a m.2, b⟩
  · have q1 := Int32.lt_iff_toInt_lt.mp (z_nle q)
    exact zpc_ck (zpc_some ⟨rfl, Or.inr ⟨fun m => by have := m.1; omega, rfl⟩⟩)
/-- behind the three places -/
theorem d_142e {μ : zSt} (hz : zr 0 262144 z) (hB : ∀ j, zr 0 255 (B j)) (hm : zMid z bk B μ) (hh : zIsH z B (μ.1 0 8)) {n : Nat} : zpc (fX12_load_142 n μ (2 * 32752 + 16)) (zFin z bk B) := by
  cases n with
  | zero => exact zpc_none
  | succ n =>
    show zpc (fX12_load_142_body (fX12_load_142 n) μ (2 * 32752 + 16)) _
    unfold fX12_load_142_body
    have g5 : zgi μ 0 5 = z := hm.1
    have c : (49152 : Int32).toInt = 49152 := rfl
    rw [g5]
    refine zpc_if (fun _ => zpc_if (fun q => ?_) (fun q => ?_)) (fun q => absurd (by decide) q)
    · refine d_192 hz hB hm hh (fun r => ?_)
      have := Int32.lt_iff_toInt_lt.mp r
      have := Int32.le_iff_toInt_le.mp q
      exfalso
      omega
    · have q1 := Int32.lt_iff_toInt_lt.mp (z_nle q)
      refine zpc_bi (p_bytesAt (x := 32742) (zr_c (by decide))) (fun μ1 v p => ?_)
      obtain ⟨p1, p2⟩ := p
      have p1 : μ1 = μ := p1
      subst p1
      have p2 : v = zWd (zMb μ1) 32742 := p2
      rw [hm.wd (by omega)] at p2
      exact d_192 hz hB hm hh (fun _ => p2)
/-- one place -/
theorem d_142s {μ : zSt} {x3 : Int32} (hm : zMid z bk B μ) (h3 : zr 0 32752 x3) (hz : zr 0 262144 z) (nl : ¬ 32768 ≤ x3) {n : Nat} {Q : zSt × Int32 → Prop} (k : ∀ μ1, zMid z bk B μ1 → ((zHp z B x3.toNatClampNeg ∧ μ1.1 0 8 = x3) ∨ (¬ zHp z B x3.toNatClampNeg ∧ μ1.1 0 8 = μ.1 0 8)) → zpc (fX12_load_142 n μ1 (2 * x3 + 16)) Q) : zpc (fX12_load_142 (n + 1) μ x3) Q := by
  show zpc (fX12_load_142_body (fX12_load_142 n) μ x3) _
  unfold fX12_load_142_body fX12_load_161
  refine zpc_if (fun q => absurd q nl) (fun _ => zpc_bi (p_isH hm h3 hz) (fun μ1 v p => ?_))
  obtain ⟨p1, p2⟩ := p
  have p1 : μ1 = μ := p1
  subst p1
  refine zpc_if (fun q => zpc_bv (fun w e => ?_)) (fun q => zpc_bv (fun μ2 e2 => zpc_bv (fun w e => ?_)))
  · subst e
    rcases p2 with ⟨_, b⟩ | ⟨a, b⟩
    · have b : v = 1 := b
      rw [b] at q
      exact absurd q (by decide)
    · exact k _ hm (Or.inr ⟨a, rfl⟩)
  · subst e
    rcases p2 with ⟨a, b⟩ | ⟨a, b⟩
    · exact k _ (hm.w e2 (by decide)) (Or.inl ⟨a, by rw [e2]; exact zsi_ej⟩)
    · exact absurd b q
theorem d_142 {μ : zSt} (hz : zr 0 262144 z) (hB : ∀ j, zr 0 255 (B j)) (hm : zMid z bk B μ) (h8 : μ.1 0 8 = -1) : zpc (fX12_load_142 zfuel μ 8176) (zFin z bk B) := by
  obtain ⟨m, hf⟩ : ∃ m, zfuel = m + 1 + 1 + 1 := ⟨1999997, rfl⟩
  rw [hf]
  refine d_142s hm (zr_c (by decide)) hz (by decide) (fun μ1 m1 a1 => ?_)
  rw [show (2 : Int32) * 8176 + 16 = 16368 by decide]
  refine d_142s m1 (zr_c (by decide)) hz (by decide) (fun μ2 m2 a2 => ?_)
  rw [show (2 : Int32) * 16368 + 16 = 32752 by decide]
  refine d_142s m2 (zr_c (by decide)) hz (by decide) (fun μ3 m3 a3 => ?_)
  refine d_142e hz hB m3 ?_
  rcases a3 with ⟨b3, e3⟩ | ⟨b3, e3⟩
  · exact Or.inl ⟨b3, e3⟩
  · rcases a2 with ⟨b2, e2⟩ | ⟨b2, e2⟩
    · exact Or.inr (Or.inl ⟨b3, b2, e3.trans e2⟩)
    · rcases a1 with ⟨b1, e1⟩ | ⟨b1, e1⟩
      · exact Or.inr (Or.inr (Or.inl ⟨b3, b2, b1, (e3.trans e2).trans e1⟩))
      · exact Or.inr (Or.inr (Or.inr ⟨b3, b2, b1, ((e3.trans e2).trans e1).trans h8⟩))
/-- the copy -/
theorem d_89 {T : Nat → Int32} {x1 : Int32} (hz : zr 0 262144 z) (hB : ∀ j, zr 0 255 (B j)) (h1 : zr 0 512 x1) (hT : ∀ j : Nat, (j : Int) < z.toInt → T (x1.toNatClampNeg + j) &&& 255 = B j) (hk : z.toInt ≤ (16384 * bk).toInt) : ∀ (n : Nat) (μ : zSt) (x3 : Int32), zr 0 262144 x3 → μ.1 1 = T → μ.1 0 5 = z → μ.1 0 6 = bk → (∀ j : Nat, (j : Int) < x3.toInt → (j : Int) < z.toInt → μ.1 2 j &&& 255 = B j) → zpc (fX12_load_89 n μ x1 x3) (zFin z bk B) := by
  intro n
  induction n with
  | zero => intro μ x3 _ _ _ _ _; exact zpc_none
  | succ n ih =>
    intro μ x3 h3 e1 e5 e6 hc
    show zpc (fX12_load_89_body (fX12_load_89 n) μ x1 x3) _
    unfold fX12_load_89_body fX12_load_126
    have b0 := h3.1
    have b9 := h3.2
    have z2 := hz.2
    have k3 := z_clamp b0
    rw [show zgi μ 0 6 = bk from e6, show zgi μ 0 5 = z from e5]
    refine zpc_if (fun q => zpc_bv (fun μ1 m1 => ?_)) (fun q => ?_)
    · have q1 := Int32.le_iff_toInt_le.mp q
      refine d_142 hz hB ⟨?_, ?_, fun j hj => ?_⟩ ?_
      · rw [m1, zsi_nj (by decide)]; exact e5
      · rw [m1, zsi_nj (by decide)]; exact e6
      · rw [m1, zsi_ne (by decide)]; exact hc j (by omega) hj
      · rw [m1]; exact zsi_ej
    · have c1 : (1 : Int32).toInt = 1 := rfl
      have go : ∀ (y : Int32) (μ1 : zSt), x3.toInt < 262144 → μ1 = zsi μ 2 x3.toNatClampNeg (vp_nar .byte y) → (x3.toInt < z.toInt → y &&& 255 = B x3.toNatClampNeg) → zpc (fX12_load_89 n μ1 x1 (x3 + 1)) (zFin z bk B) := fun y μ1 hx m1 hy => by
        have t : (x3 + 1).toInt = x3.toInt + (1 : Int32).toInt := z_tadd h3 (zr_c (lo := 1) (hi := 1) (by decide)) (by decide)
        refine ih μ1 (x3 + 1) ⟨by omega, by omega⟩ ?_ ?_ ?_ (fun j hj hjz => ?_)
        · rw [m1, zsi_ne (by decide)]; exact e1
        · rw [m1, zsi_ne (by decide)]; exact e5
        · rw [m1, zsi_ne (by decide)]; exact e6
        · rw [m1]
          by_cases qj : j = x3.toNatClampNeg
          · rw [qj, zsi_ej, z_nar]
            exact hy (by omega)
          · rw [zsi_nj qj]
            exact hc j (by omega) hjz
      have inr : ∀ {w : Option (zSt × Int32)} {Q : zSt × Int32 → Prop}, (x3.toInt < 262144 → zpc w Q) → zpc (zck (zin x3 262144) w) Q := fun {w Q} h => by
        by_cases r : x3.toInt < 262144
        · exact zpc_ck (h r)
        · have e : zin x3 262144 = false := by
            have l : 262144 ≤ x3.toNatClampNeg := by omega
            show (!(decide (x3 < 0) || decide (262144 ≤ x3.toNatClampNeg))) = false
            rw [decide_eq_true l, Bool.or_true]
            rfl
          rw [e]
          exact zpc_none
      refine zpc_if (fun r => inr (fun hx => zpc_bv (fun μ1 m1 => zpc_bv (fun v e => ?_)))) (fun r => zpc_ck (inr (fun hx => zpc_bv (fun μ1 m1 => zpc_bv (fun v e => ?_)))))
      · subst e
        have r1 := Int32.le_iff_toInt_le.mp r
        exact go _ μ1 hx m1 (fun h => by exfalso; omega)
      · subst e
        have r1 := Int32.lt_iff_toInt_lt.mp (z_nle r)
        have t : (x1 + x3).toInt = x1.toInt + x3.toInt := z_tadd h1 h3 (by decide)
        have b1 := h1.1
        have k1 := z_clamp b1
        have ks := z_clamp (x := x1 + x3) (by omega)
        refine go _ μ1 hx m1 (fun h => ?_)
        show μ.1 1 (x1 + x3).toNatClampNeg &&& 255 = _
        rw [e1, show (x1 + x3).toNatClampNeg = x1.toNatClampNeg + x3.toNatClampNeg by omega]
        exact hT _ (by omega)
end ZLOAD2
end ZJN5
section ZJN6
/-! load, both sides -/
def zBk (z : Int32) : Int32 := (z + 16383) / 16384
theorem z_bank {z : Int32} (h : zr 8192 262144 z) : z.toInt ≤ (16384 * zBk z).toInt ∧ ((z + 16384) - 1) / 16384 = zBk z := by
  have c3 : (16383 : Int32).toInt = 16383 := rfl
  have c4 : (16384 : Int32).toInt = 16384 := rfl
  have c1 : (1 : Int32).toInt = 1 := rfl
  have r3 : zr 16383 16383 (16383 : Int32) := zr_c (by decide)
  have r4 : zr 16384 16384 (16384 : Int32) := zr_c (by decide)
  have r1 : zr 1 1 (1 : Int32) := zr_c (by decide)
  have t1 := z_tadd h r3 (by decide)
  have q1 := zr_add (lo := 24575) (hi := 278527) h r3 (by decide)
  have d1 := z_tdiv (y := (16384 : Int32)) 16384 rfl q1 (by decide)
  have qd : zr 1 16 (zBk z) := zr_div (lo := 1) (hi := 16) 16384 (by decide) q1 (by decide)
  have m1 := z_tmul r4 qd (by decide)
  have t2 := z_tadd h r4 (by decide)
  have q2 := zr_add (lo := 24576) (hi := 278528) h r4 (by decide)
  have t3 := z_tsub q2 r1 (by decide)
  have e : (z + 16384) - 1 = z + 16383 := Int32.toInt_inj.mp (by rw [t3, t2, t1, c3, c4, c1]; omega)
  refine ⟨?_, by rw [e]; rfl⟩
  have d2 : (zBk z).toInt = (z + 16383).toInt / 16384 := d1
  rw [m1, d2, t1, c4, c3]
  omega
/-- the class's take of the tape -/
def zTake (σ : zSt) (s0 : Int32) (r : zSt × Int32) : Prop := (¬ r.2 = 0 ∧ (∀ j, ¬ j = 2 → r.1.1 1 j = σ.1 1 j) ∧ ∀ w, r.1.1 (ztp w) = σ.1 (ztp w)) ∨ (r.2 = 0 ∧ (r.1.1 1 0 = σ.1 1 1 ∧ r.1.1 1 1 = σ.1 1 0 ∧ r.1.1 1 3 = s0 ∧ r.1.1 1 4 = zgi σ 1 2 - s0 ∧ r.1.1 1 5 = zBk (zgi σ 1 2 - s0)) ∧ (∀ w, r.1.1 (ztp w) = σ.1 (ztp w)) ∧ zIsH (zgi σ 1 2 - s0) (fun j => σ.1 (ztp (σ.1 1 0)) (s0.toNatClampNeg + j)) (r.1.1 1 7) ∧ zIsP (zgi σ 1 2 - s0) (fun j => σ.1 (ztp (σ.1 1 0)) (s0.toNatClampNeg + j)) (r.1.1 1 7) (r.1.1 1 6) ∧ zr 8192 262144 (zgi σ 1 2 - s0))
theorem p_take21 {σ : zSt} {s0 : Int32} (hr : zr 0 262656 (zgi σ 1 2)) (h0 : zr 0 512 s0) : zpc (fX2_takeTape_21 σ s0) (zTake σ s0) := by
  unfold fX2_takeTape_21
  refine zpc_bv (fun v1 e1 => zpc_bv (fun σ2 e2 => ?_))
  have c8 : (8192 : Int32).toInt = 8192 := rfl
  have rv : zr (-512) 262656 v1 := by rw [e1]; exact zr_sub (lo := -512) (hi := 262656) hr h0 (by decide)
  have k2 : ∀ j, ¬ j = 2 → σ2.1 1 j = σ.1 1 j := fun j hj => by rw [e2]; exact zsi_nj hj
  have w2 : ∀ w, σ2.1 (ztp w) = σ.1 (ztp w) := fun w => by rw [e2]; exact zsi_ne (fun e => z_tp1 w e.symm)
  refine zpc_if (fun q5 => zpc_ck (zpc_if (fun q7 => ?_) (fun q7 => zpc_some (Or.inl ⟨(by decide : ¬ (2 : Int32) = 0), k2, w2⟩)))) (fun q5 => zpc_some (Or.inl ⟨(by decide : ¬ (1 : Int32) = 0), k2, w2⟩))
  have h6 := zc_ler (8192) q5 (zr_c (lo := 8192) (hi := 8192) (by decide)) rv (by decide)
  have h8 := zc_eql (0) (0) q7 (zr_rem (lo := 0) (hi := 8191) 8192 (by decide) h6 (by decide)) (zr_c (lo := 0) (hi := 0) (by decide)) (by decide)
  have h9 := z_m8 h6 h8
  refine zpc_bv (fun σ3 e3 => zpc_bv (fun σ4 e4 => zpc_bv (fun σ5 e5 => zpc_bv (fun σ6 e6 => zpc_ck (zpc_bv (fun σ7 e7 => ?_))))))
  have w7 : ∀ w, σ7.1 (ztp w) = σ.1 (ztp w) := fun w => by
    have n : ¬ ztp w = 1 := fun e => z_tp1 w e.symm
    rw [e7, zsi_ne n, e6, zsi_ne n, e5, zsi_ne n, e4, zsi_ne n, e3, zsi_ne n]
    exact w2 w
  have a1 : σ7.1 1 1 = σ.1 1 0 := by
    rw [e7, zsi_nj (by decide), e6, zsi_nj (by decide), e5, zsi_nj (by decide), e4, zsi_nj (by decide), e3, zsi_ej]
    exact k2 0 (by decide)
  have a0 : σ7.1 1 0 = σ.1 1 1 := by
    rw [e7, zsi_nj (by decide), e6, zsi_nj (by decide), e5, zsi_nj (by decide), e4, zsi_ej]
    exact k2 1 (by decide)
  have a3 : σ7.1 1 3 = s0 := by rw [e7, zsi_nj (by decide), e6, zsi_nj (by decide), e5, zsi_ej]
  have a4 : σ7.1 1 4 = v1 := by rw [e7, zsi_nj (by decide), e6, zsi_ej]
  have a5 : σ7.1 1 5 = zBk v1 := by rw [e7, zsi_ej]; exact (z_bank h9).2
  have cb : zCb σ7 = fun j => σ.1 (ztp (σ.1 1 0)) (s0.toNatClampNeg + j) := by
    funext j
    unfold zCb
    rw [a1, a3, w7]
  have hb7 : zr 0 512 (σ7.1 1 3) := by rw [a3]; exact h0
  have hz7 : zr 0 262144 (σ7.1 1 4) := by rw [a4]; exact zr_w h9 (by decide)
  refine zpc_bi (p_header hb7 hz7) (fun σ8 v9 p => ?_)
  obtain ⟨p1, p2⟩ := p
  have p1 : σ8 = σ7 := p1
  subst p1
  have p2 : zIsH (σ8.1 1 4) (zCb σ8) v9 := p2
  rw [a4, cb] at p2
  refine zpc_bv (fun σ10 e10 => ?_)
  have n10 : ∀ j, ¬ j = 7 → σ10.1 1 j = σ8.1 1 j := fun j hj => by rw [e10]; exact zsi_nj hj
  have w10 : ∀ w, σ10.1 (ztp w) = σ.1 (ztp w) := fun w => by rw [e10, zsi_ne (fun e => z_tp1 w e.symm)]; exact w7 w
  have a7 : σ10.1 1 7 = v9 := by rw [e10]; exact zsi_ej
  have cb2 : zCb σ10 = fun j => σ.1 (ztp (σ.1 1 0)) (s0.toNatClampNeg + j) := by
    funext j
    unfold zCb
    rw [n10 1 (by decide), n10 3 (by decide), a1, a3, w10]
  refine zpc_bi (p_paging (by rw [n10 3 (by decide)]; exact hb7) (by rw [n10 4 (by decide)]; exact hz7)) (fun σ11 v12 p => ?_)
  obtain ⟨r1, r2⟩ := p
  have r1 : σ11 = σ10 := r1
  subst r1
  have r2 : zIsP (σ11.1 1 4) (zCb σ11) (σ11.1 1 7) v12 := r2
  rw [n10 4 (by decide), a4, cb2, a7] at r2
  refine zpc_bv (fun σ13 e13 => zpc_some (Or.inr ⟨rfl, ?_⟩))
  have n13 : ∀ j, ¬ j = 6 → σ13.1 1 j = σ11.1 1 j := fun j hj => by rw [e13]; exact zsi_nj hj
  have b7 : σ13.1 1 7 = v9 := (n13 7 (by decide)).trans a7
  have b6 : σ13.1 1 6 = v12 := by rw [e13]; exact zsi_ej
  refine ⟨⟨((n13 0 (by decide)).trans (n10 0 (by decide))).trans a0, ((n13 1 (by decide)).trans (n10 1 (by decide))).trans a1, ((n13 3 (by decide)).trans (n10 3 (by decide))).trans a3, (((n13 4 (by decide)).trans (n10 4 (by decide))).trans a4).trans e1, (((n13 5 (by decide)).trans (n10 5 (by decide))).trans a5).trans (by rw [e1])⟩, fun w => ?_, ?_, ?_, ?_⟩
  · show σ13.1 (ztp w) = _
    rw [e13, zsi_ne (fun e => z_tp1 w e.symm)]
    exact w10 w
  · show zIsH _ _ (σ13.1 1 7)
    rw [b7, ← e1]
    exact p2
  · show zIsP _ _ (σ13.1 1 7) (σ13.1 1 6)
    rw [b7, b6, ← e1]
    exact r2
  · rw [← e1]
    exact h9
/-- the reference's load -/
def zLdM (μ : zSt) (s0 : Int32) (r : zSt × Int32) : Prop := (¬ r.2 = 0 ∧ r.1.1 1 = μ.1 1 ∧ r.1.1 2 = μ.1 2 ∧ ∀ j, j ∈ [5, 6, 7, 8, 9] → r.1.1 0 j = μ.1 0 j) ∨ (r.2 = 0 ∧ zFin (zgi μ 0 2 - s0) (zBk (zgi μ 0 2 - s0)) (fun j => μ.1 1 (s0.toNatClampNeg + j) &&& 255) r)
theorem p_load26 {μ : zSt} {s0 : Int32} (hr : zr 0 262656 (zgi μ 0 2)) (h0 : zr 0 512 s0) : zpc (fX12_load_26 μ s0) (zLdM μ s0) := by
  unfold fX12_load_26
  refine zpc_bv (fun v e1 => zpc_bv (fun μ2 e2 => ?_))
  have rv : zr (-512) 262656 v := by rw [e1]; exact zr_sub (lo := -512) (hi := 262656) hr h0 (by decide)
  have err : ∀ x : Int32, ¬ x = 0 → zLdM μ s0 (μ2, x) := fun x hx => Or.inl ⟨hx, by rw [e2]; exact zsi_ne (by decide), by rw [e2]; exact zsi_ne (by decide), fun j hj => by rw [e2]; exact zsi_nj (fun r => by subst r; revert hj; decide)⟩
  refine zpc_if (fun q5 => zpc_ck (zpc_if (fun q7 => zpc_if (fun q9 => ?_) (fun _ => zpc_some (err 3 (by decide)))) (fun _ => zpc_some (err 2 (by decide))))) (fun _ => zpc_some (err 1 (by decide)))
  have h6 := zc_ler (8192) q5 (zr_c (lo := 8192) (hi := 8192) (by decide)) rv (by decide)
  have h9 := zc_lel (262144) q9 h6 (zr_c (lo := 262144) (hi := 262144) (by decide)) (by decide)
  refine zpc_bv (fun μ3 e3 => zpc_ck (zpc_bv (fun μ4 e4 => ?_)))
  have t3 : zgi μ3 0 5 = v := by rw [e3]; exact zsi_ej
  rw [t3] at e4
  have a5 : μ4.1 0 5 = v := by rw [e4, zsi_nj (by decide)]; exact t3
  have a6 : μ4.1 0 6 = zBk v := by rw [e4]; exact zsi_ej
  have a1 : μ4.1 1 = μ.1 1 := by rw [e4, zsi_ne (by decide), e3, zsi_ne (by decide), e2]; exact zsi_ne (by decide)
  have c0 : (0 : Int32).toInt = 0 := rfl
  refine zpc_mono (zpc_and (t_load_89 zfuel μ4 s0 0) (d_89 (z := v) (bk := zBk v) (B := fun j => μ.1 1 (s0.toNatClampNeg + j) &&& 255) (T := μ.1 1) (zr_w h9 (by decide)) (fun j => z_byte _) h0 (fun j _ => rfl) (z_bank h9).1 zfuel μ4 0 (zr_c (by decide)) a1 a5 a6 (fun j hj _ => by exfalso; omega))) (fun r p => Or.inr ⟨p.1.1, ?_⟩)
  rw [← e1]
  exact p.2
/-- both loads -/
theorem z2_load {σ μ : zSt} (h : zR6 σ μ) (hr : zr 0 262656 (zgi μ 0 2)) : zp2 (fX11_load σ ) (fX12_load μ ) (fun r r' => r.2 = r'.2 → zR6L 0 r.1 r'.1) := by
  have e12 : zgi σ 1 2 = zgi μ 0 2 := h.1
  have hrC : zr 0 262656 (zgi σ 1 2) := by rw [e12]; exact hr
  have hr1 := hr.1
  have hr2 := hr.2
  -- one offset for both
  obtain ⟨s0, hs0, hC, hM⟩ : ∃ s0, zr 0 512 s0 ∧ zpc (fX2_takeTape σ ) (zTake σ s0) ∧ ∀ μ1, zgi μ1 0 2 = zgi μ 0 2 → zpc (if (zrem (zgi μ1 0 2) 16384) = 512 then fX12_load_26 μ1 512 else fX12_load_26 μ1 0) (zLdM μ1 s0) := by
    unfold fX2_takeTape
    rw [e12]
    by_cases q : (zrem (zgi μ 0 2) 16384) = 512
    · refine ⟨512, zr_c (by decide), zpc_ck (zpc_if (fun _ => p_take21 hrC (zr_c (by decide))) (fun r => absurd q r)), fun μ1 e => ?_⟩
      rw [e]
      exact zpc_if (fun _ => p_load26 (by rw [e]; exact hr) (zr_c (by decide))) (fun r => absurd q r)
    · refine ⟨0, zr_c (by decide), zpc_ck (zpc_if (fun r => absurd r q) (fun _ => p_take21 hrC (zr_c (by decide)))), fun μ1 e => ?_⟩
      rw [e]
      exact zpc_if (fun r => absurd r q) (fun _ => p_load26 (by rw [e]; exact hr) (zr_c (by decide)))
  -- the class behind it
  have PC : zpc (fX11_load σ ) (zTake σ s0) := by
    unfold fX11_load fX11_load_28
    refine zpc_bi hC (fun σ1 v2 p => zpc_if (fun q => ?_) (fun _ => zpc_some p))
    have k1 : zKeC σ1 σ1 := ⟨rfl, rfl, rfl⟩
    refine zpc_bu (w_fX2_clearRam k1) (fun σ3 k3 => zpc_bu (w_fX11_clearAll k3) (fun σ4 k4 => zpc_ck (zpc_bs (zKeC.wi (k := 0) (j := 11) (v := 0) k4 (by decide)) (fun σ5 k5 => zpc_some ?_))))
    rcases p with ⟨p1, _⟩ | ⟨p1, ⟨a0, a1, a3, a4, a5⟩, w, p2, p3, p4⟩
    · exact absurd q p1
    · have r1 : σ5.1 1 = σ1.1 1 := k5.1
      refine Or.inr ⟨q, ⟨?_, ?_, ?_, ?_, ?_⟩, fun x => (k5.row x).trans (w x), ?_, ?_, p4⟩
      · show σ5.1 1 0 = _; rw [r1]; exact a0
      · show σ5.1 1 1 = _; rw [r1]; exact a1
      · show σ5.1 1 3 = _; rw [r1]; exact a3
      · show σ5.1 1 4 = _; rw [r1]; exact a4
      · show σ5.1 1 5 = _; rw [r1]; exact a5
      · show zIsH _ _ (σ5.1 1 7); rw [r1]; exact p2
      · show zIsP _ _ (σ5.1 1 7) (σ5.1 1 6); rw [r1]; exact p3
  have PM : zpc (fX12_load μ ) (zLdM μ s0) := by
    unfold fX12_load
    refine zpc_bv (fun μ1 e1 => zpc_ck ?_)
    have l := z_c02 e1
    have r1 : μ1.1 1 = μ.1 1 := by rw [e1]; exact zsi_ne (by decide)
    have r2 : μ1.1 2 = μ.1 2 := by rw [e1]; exact zsi_ne (by decide)
    refine zpc_mono (hM μ1 l) (fun r p => ?_)
    unfold zLdM at p ⊢
    rw [r1, r2, l] at p
    rcases p with ⟨p1, p2, p3, p4⟩ | p
    · exact Or.inl ⟨p1, p2, p3, fun j hj => (p4 j hj).trans (by rw [e1]; exact zsi_nj (fun r => by subst r; revert hj; decide))⟩
    · exact Or.inr p
  refine zp2_of PC PM (fun r r' p p' ev => ?_)
  obtain ⟨hL, hD, hCt⟩ := h.2
  rcases p with ⟨p1, p2, p3⟩ | ⟨p1, ⟨a0, a1, a3, a4, a5⟩, w, ph, pp, pz⟩
  · rcases p' with ⟨_, q2, q3, q4⟩ | ⟨q1, _⟩
    · refine ⟨fun j hj => by exfalso; omega, ?_, ?_⟩
      · rw [p2 0 (by decide), p2 1 (by decide)]; exact hD
      · exact hCt.keep (fun j hj => p2 j (fun e => by subst e; revert hj; decide)) (p3 _) q4 q3
    · exact absurd (ev.trans q1) p1
  · rcases p' with ⟨q1, _⟩ | ⟨_, ⟨f5, f6, fb⟩, fh, fp, fs⟩
    · exact absurd (ev.symm.trans p1) q1
    · rw [e12] at a4 a5 ph pp pz
      have z0 := pz.1
      have k0 := z_clamp hs0.1
      have ts : (zgi μ 0 2 - s0).toInt = (zgi μ 0 2).toInt - s0.toInt := z_tsub hr hs0 (by decide)
      -- bytes
      have eb : ∀ j : Nat, (j : Int) < (zgi μ 0 2 - s0).toInt → σ.1 (ztp (σ.1 1 0)) (s0.toNatClampNeg + j) = μ.1 1 (s0.toNatClampNeg + j) &&& 255 := fun j hj => hL _ (by have : (zgi μ 0 2).toInt = (μ.1 0 2).toInt := rfl; omega)
      have ph2 := zIsH.cong eb ph
      have hh : r.1.1 1 7 = r'.1.1 0 8 := ph2.one fh
      have pp2 := zIsP.cong eb pp
      rw [hh] at pp2
      have hp : r.1.1 1 6 = r'.1.1 0 7 := pp2.one fp
      obtain ⟨l1, l2⟩ := fh.lt (by omega)
      refine ⟨fun j hj => by exfalso; omega, ?_, ?_⟩
      · rw [a0, a1]; exact fun e => hD e.symm
      · refine ⟨a4.trans f5.symm, a5.trans f6.symm, hp, hh, fun j hj => ?_, fun hq => ?_⟩
        · rw [f5] at hj
          rw [a1, a3, w, eb j hj, fb j hj]
        · rw [f5]
          have l3 := l2 hq
          refine ⟨l3, ?_⟩
          rw [fs hq]
          exact zSum_cong (fun j hj => (fb j hj).symm) hq l3
end ZJN6
