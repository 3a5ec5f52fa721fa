theorem qm_230 {n d : Nat} {M : zM} (hd : 1 ≤ d) (hC : qMI M)  (a0 : Int) : qOkP n d 230 [.inr (.inl (a0))] 2 M (fun v => ∃ x : Int, v = some (.inl x) ∧ ((-1) ≤ x ∧ x ≤ 14)) := by
  have hz := zp_230
  have hd0 : 0 < d := by omega
  show zG n (0, 0) d 230 (0, [.inr (.inl (a0)), zN], []) M _
  refine zG_blk (c' := (4, [.inr (.inl (a0)), zN], [.inr (.inl (257105)), .inr (.inl (a0))])) 2 hd0 hz (by rfl) ?_
  refine zG_lc_ne hd0 hz rfl rfl (fun hb4 => ?_) (fun hb4 => ?_)
  · refine zG_blk (c' := (14, [.inr (.inl (a0)), zN], [.inr (.inl (10989829)), .inr (.inl (a0))])) 2 hd0 hz (by rfl) ?_
    refine zG_lc_ne hd0 hz rfl rfl (fun hb14 => ?_) (fun hb14 => ?_)
    · refine zG_blk (c' := (24, [.inr (.inl (a0)), zN], [.inr (.inl (2283497869)), .inr (.inl (a0))])) 2 hd0 hz (by rfl) ?_
      refine zG_lc_ne hd0 hz rfl rfl (fun hb24 => ?_) (fun hb24 => ?_)
      · refine zG_blk (c' := (34, [.inr (.inl (a0)), zN], [.inr (.inl (6476833)), .inr (.inl (a0))])) 2 hd0 hz (by rfl) ?_
        refine zG_lc_ne hd0 hz rfl rfl (fun hb34 => ?_) (fun hb34 => ?_)
        · refine zG_blk (c' := (44, [.inr (.inl (a0)), zN], [.inr (.inl (51445319)), .inr (.inl (a0))])) 2 hd0 hz (by rfl) ?_
          refine zG_lc_ne hd0 hz rfl rfl (fun hb44 => ?_) (fun hb44 => ?_)
          · refine zG_blk (c' := (54, [.inr (.inl (a0)), zN], [.inr (.inl (52714253)), .inr (.inl (a0))])) 2 hd0 hz (by rfl) ?_
            refine zG_lc_ne hd0 hz rfl rfl (fun hb54 => ?_) (fun hb54 => ?_)
            · refine zG_blk (c' := (64, [.inr (.inl (a0)), zN], [.inr (.inl (259565)), .inr (.inl (a0))])) 2 hd0 hz (by rfl) ?_
              refine zG_lc_ne hd0 hz rfl rfl (fun hb64 => ?_) (fun hb64 => ?_)
              · refine zG_blk (c' := (75, [.inr (.inl (a0)), zN], [.inr (.inl (230501920)), .inr (.inl (a0))])) 2 hd0 hz (by rfl) ?_
                refine zG_lc_ne hd0 hz rfl rfl (fun hb75 => ?_) (fun hb75 => ?_)
                · refine zG_blk (c' := (86, [.inr (.inl (a0)), zN], [.inr (.inl (10631)), .inr (.inl (a0))])) 2 hd0 hz (by rfl) ?_
                  refine zG_lc_ne hd0 hz rfl rfl (fun hb86 => ?_) (fun hb86 => ?_)
                  · refine zG_blk (c' := (97, [.inr (.inl (a0)), zN], [.inr (.inl (43544)), .inr (.inl (a0))])) 2 hd0 hz (by rfl) ?_
                    refine zG_lc_ne hd0 hz rfl rfl (fun hb97 => ?_) (fun hb97 => ?_)
                    · refine zG_blk (c' := (108, [.inr (.inl (a0)), zN], [.inr (.inl (1111)), .inr (.inl (a0))])) 2 hd0 hz (by rfl) ?_
                      refine zG_lc_ne hd0 hz rfl rfl (fun hb108 => ?_) (fun hb108 => ?_)
                      · refine zG_blk (c' := (119, [.inr (.inl (a0)), zN], [.inr (.inl (423)), .inr (.inl (a0))])) 2 hd0 hz (by rfl) ?_
                        refine zG_lc_ne hd0 hz rfl rfl (fun hb119 => ?_) (fun hb119 => ?_)
                        · refine zG_blk (c' := (130, [.inr (.inl (a0)), zN], [.inr (.inl (249)), .inr (.inl (a0))])) 2 hd0 hz (by rfl) ?_
                          refine zG_lc_ne hd0 hz rfl rfl (fun hb130 => ?_) (fun hb130 => ?_)
                          · refine zG_blk (c' := (141, [.inr (.inl (a0)), zN], [.inr (.inl (107681)), .inr (.inl (a0))])) 2 hd0 hz (by rfl) ?_
                            refine zG_lc_ne hd0 hz rfl rfl (fun hb141 => ?_) (fun hb141 => ?_)
                            · refine zG_blk (c' := (152, [.inr (.inl (a0)), zN], [.inr (.inl (309007594)), .inr (.inl (a0))])) 2 hd0 hz (by rfl) ?_
                              refine zG_lc_ne hd0 hz rfl rfl (fun hb152 => ?_) (fun hb152 => ?_)
                              · refine zG_blk (c' := (160, [.inr (.inl (a0)), zN], [.inl (-1)])) 1 hd0 hz (by rfl) ?_
                                exact zG_ret hd0 hz rfl rfl ⟨rfl, _, rfl, by omega⟩
                              · refine zG_blk (c' := (158, [.inr (.inl (a0)), zN], [.inl 14])) 1 hd0 hz (by rfl) ?_
                                exact zG_ret hd0 hz rfl rfl ⟨rfl, _, rfl, by omega⟩
                            · refine zG_blk (c' := (147, [.inr (.inl (a0)), zN], [.inl 13])) 1 hd0 hz (by rfl) ?_
                              exact zG_ret hd0 hz rfl rfl ⟨rfl, _, rfl, by omega⟩
                          · refine zG_blk (c' := (136, [.inr (.inl (a0)), zN], [.inl 12])) 1 hd0 hz (by rfl) ?_
                            exact zG_ret hd0 hz rfl rfl ⟨rfl, _, rfl, by omega⟩
                        · refine zG_blk (c' := (125, [.inr (.inl (a0)), zN], [.inl 11])) 1 hd0 hz (by rfl) ?_
                          exact zG_ret hd0 hz rfl rfl ⟨rfl, _, rfl, by omega⟩
                      · refine zG_blk (c' := (114, [.inr (.inl (a0)), zN], [.inl 10])) 1 hd0 hz (by rfl) ?_
                        exact zG_ret hd0 hz rfl rfl ⟨rfl, _, rfl, by omega⟩
                    · refine zG_blk (c' := (103, [.inr (.inl (a0)), zN], [.inl 9])) 1 hd0 hz (by rfl) ?_
                      exact zG_ret hd0 hz rfl rfl ⟨rfl, _, rfl, by omega⟩
                  · refine zG_blk (c' := (92, [.inr (.inl (a0)), zN], [.inl 8])) 1 hd0 hz (by rfl) ?_
                    exact zG_ret hd0 hz rfl rfl ⟨rfl, _, rfl, by omega⟩
                · refine zG_blk (c' := (81, [.inr (.inl (a0)), zN], [.inl 7])) 1 hd0 hz (by rfl) ?_
                  exact zG_ret hd0 hz rfl rfl ⟨rfl, _, rfl, by omega⟩
              · refine zG_blk (c' := (70, [.inr (.inl (a0)), zN], [.inl 6])) 1 hd0 hz (by rfl) ?_
                exact zG_ret hd0 hz rfl rfl ⟨rfl, _, rfl, by omega⟩
            · refine zG_blk (c' := (59, [.inr (.inl (a0)), zN], [.inl 5])) 1 hd0 hz (by rfl) ?_
              exact zG_ret hd0 hz rfl rfl ⟨rfl, _, rfl, by omega⟩
          · refine zG_blk (c' := (49, [.inr (.inl (a0)), zN], [.inl 4])) 1 hd0 hz (by rfl) ?_
            exact zG_ret hd0 hz rfl rfl ⟨rfl, _, rfl, by omega⟩
        · refine zG_blk (c' := (39, [.inr (.inl (a0)), zN], [.inl 3])) 1 hd0 hz (by rfl) ?_
          exact zG_ret hd0 hz rfl rfl ⟨rfl, _, rfl, by omega⟩
      · refine zG_blk (c' := (29, [.inr (.inl (a0)), zN], [.inl 2])) 1 hd0 hz (by rfl) ?_
        exact zG_ret hd0 hz rfl rfl ⟨rfl, _, rfl, by omega⟩
    · refine zG_blk (c' := (19, [.inr (.inl (a0)), zN], [.inl 1])) 1 hd0 hz (by rfl) ?_
      exact zG_ret hd0 hz rfl rfl ⟨rfl, _, rfl, by omega⟩
  · refine zG_blk (c' := (9, [.inr (.inl (a0)), zN], [.inl 0])) 1 hd0 hz (by rfl) ?_
    exact zG_ret hd0 hz rfl rfl ⟨rfl, _, rfl, by omega⟩
