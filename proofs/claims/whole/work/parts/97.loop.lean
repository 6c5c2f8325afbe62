theorem lm_13 : Cond.methodLink R_law 13 yX8_put ∈ zAll := zAll_of 341 (by decide +kernel) (by decide +kernel)
theorem lc_13 {L : Nat} {xs : Nat → Int32} {d' pc : Nat} {ls : List (Option zAV)} {st : List zAV} {M : zMem} {post' : Int → zMem → Prop} {a1 a2 : zAV} (hd : decode code pc = .ok (.invokevirtual 13, 3)) (hdd : d' ≤ 7) (hst : zcat st ≤ 8) (hSp : zSp zd_S_put d' [zr 0, a1, a2] M post') (kk : ∀ r M', post' r M' → lV L xs (pc + 3) ls (zi r :: st) M') : lV L xs pc ls (a2 :: a1 :: zr 0 :: st) M := l_callV (μ' := zd_S_put) (n := 2) (av := [a1, a2]) (q := 0) (ci := 7) (C := RX8) (Tt := TX8) (N := 8) rfl (by decide) rfl lm_13 zk_im_S_put zk_sel_S_put zk_ini_S zk_code_S_put (by decide +kernel) rfl (by decide) ⟨_, rfl⟩ hd hdd hst hSp kk
theorem lm_18 : Cond.methodLink R_law 18 yX8_part ∈ zAll := zAll_of 361 (by decide +kernel) (by decide +kernel)
theorem lc_18 {L : Nat} {xs : Nat → Int32} {d' pc : Nat} {ls : List (Option zAV)} {st : List zAV} {M : zMem} {post' : Int → zMem → Prop} {a1 a2 : zAV} (hd : decode code pc = .ok (.invokevirtual 18, 3)) (hdd : d' ≤ 7) (hst : zcat st ≤ 8) (hSp : zSp zd_S_part d' [zr 0, a1, a2] M post') (kk : ∀ r M', post' r M' → lV L xs (pc + 3) ls (zi r :: st) M') : lV L xs pc ls (a2 :: a1 :: zr 0 :: st) M := l_callV (μ' := zd_S_part) (n := 2) (av := [a1, a2]) (q := 0) (ci := 7) (C := RX8) (Tt := TX8) (N := 8) rfl (by decide) rfl lm_18 zk_im_S_part zk_sel_S_part zk_ini_S zk_code_S_part (by decide +kernel) rfl (by decide) ⟨_, rfl⟩ hd hdd hst hSp kk
theorem lm_23 : Cond.methodLink R_law 23 yX8_law ∈ zAll := zAll_of 365 (by decide +kernel) (by decide +kernel)
theorem lc_23 {L : Nat} {xs : Nat → Int32} {d' pc : Nat} {ls : List (Option zAV)} {st : List zAV} {M : zMem} {post' : Int → zMem → Prop} {a1 a2 : zAV} (hd : decode code pc = .ok (.invokevirtual 23, 3)) (hdd : d' ≤ 7) (hst : zcat st ≤ 8) (hSp : zSp zd_S_law d' [zr 0, a1, a2] M post') (kk : ∀ r M', post' r M' → lV L xs (pc + 3) ls (zi r :: st) M') : lV L xs pc ls (a2 :: a1 :: zr 0 :: st) M := l_callV (μ' := zd_S_law) (n := 2) (av := [a1, a2]) (q := 0) (ci := 7) (C := RX8) (Tt := TX8) (N := 8) rfl (by decide) rfl lm_23 zk_im_S_law zk_sel_S_law zk_ini_S zk_code_S_law (by decide +kernel) rfl (by decide) ⟨_, rfl⟩ hd hdd hst hSp kk
theorem lm_27 : Cond.methodLink R_law 27 yX8_unlaw ∈ zAll := zAll_of 388 (by decide +kernel) (by decide +kernel)
theorem lc_27 {L : Nat} {xs : Nat → Int32} {d' pc : Nat} {ls : List (Option zAV)} {st : List zAV} {M : zMem} {post' : Int → zMem → Prop} (hd : decode code pc = .ok (.invokevirtual 27, 3)) (hdd : d' ≤ 7) (hst : zcat st ≤ 8) (hSp : zSp zd_S_unlaw d' [zr 0] M post') (kk : ∀ r M', post' r M' → lV L xs (pc + 3) ls (zi r :: st) M') : lV L xs pc ls (zr 0 :: st) M := l_callV (μ' := zd_S_unlaw) (n := 0) (av := []) (q := 0) (ci := 7) (C := RX8) (Tt := TX8) (N := 8) rfl (by decide) rfl lm_27 zk_im_S_unlaw zk_sel_S_unlaw zk_ini_S zk_code_S_unlaw (by decide +kernel) rfl (by decide) ⟨_, rfl⟩ hd hdd hst hSp kk
theorem lm_32 : Cond.methodLink R_law 32 yX8_worlds ∈ zAll := zAll_of 392 (by decide +kernel) (by decide +kernel)
theorem lc_32 {L : Nat} {xs : Nat → Int32} {d' pc : Nat} {ls : List (Option zAV)} {st : List zAV} {M : zMem} {post' : Int → zMem → Prop} {a1 a2 : zAV} (hd : decode code pc = .ok (.invokevirtual 32, 3)) (hdd : d' ≤ 7) (hst : zcat st ≤ 8) (hSp : zSp zd_S_worlds d' [zr 0, a1, a2] M post') (kk : ∀ r M', post' r M' → lV L xs (pc + 3) ls (zi r :: st) M') : lV L xs pc ls (a2 :: a1 :: zr 0 :: st) M := l_callV (μ' := zd_S_worlds) (n := 2) (av := [a1, a2]) (q := 0) (ci := 7) (C := RX8) (Tt := TX8) (N := 8) rfl (by decide) rfl lm_32 zk_im_S_worlds zk_sel_S_worlds zk_ini_S zk_code_S_worlds (by decide +kernel) rfl (by decide) ⟨_, rfl⟩ hd hdd hst hSp kk
theorem lm_36 : Cond.methodLink R_law 36 yX8_number ∈ zAll := zAll_of 513 (by decide +kernel) (by decide +kernel)
theorem lc_36 {L : Nat} {xs : Nat → Int32} {d' pc : Nat} {ls : List (Option zAV)} {st : List zAV} {M : zMem} {post' : Int → zMem → Prop} {a1 a2 : zAV} (hd : decode code pc = .ok (.invokevirtual 36, 3)) (hdd : d' ≤ 7) (hst : zcat st ≤ 8) (hSp : zSp zd_S_number d' [zr 0, a1, a2] M post') (kk : ∀ r M', post' r M' → lV L xs (pc + 3) ls (zi r :: st) M') : lV L xs pc ls (a2 :: a1 :: zr 0 :: st) M := l_callV (μ' := zd_S_number) (n := 2) (av := [a1, a2]) (q := 0) (ci := 7) (C := RX8) (Tt := TX8) (N := 8) rfl (by decide) rfl lm_36 zk_im_S_number zk_sel_S_number zk_ini_S zk_code_S_number (by decide +kernel) rfl (by decide) ⟨_, rfl⟩ hd hdd hst hSp kk
theorem lm_40 : Cond.methodLink R_law 40 yX8_keeps ∈ zAll := zAll_of 521 (by decide +kernel) (by decide +kernel)
theorem lc_40 {L : Nat} {xs : Nat → Int32} {d' pc : Nat} {ls : List (Option zAV)} {st : List zAV} {M : zMem} {post' : Int → zMem → Prop} {a1 a2 : zAV} (hd : decode code pc = .ok (.invokevirtual 40, 3)) (hdd : d' ≤ 7) (hst : zcat st ≤ 8) (hSp : zSp zd_S_keeps d' [zr 0, a1, a2] M post') (kk : ∀ r M', post' r M' → lV L xs (pc + 3) ls (zi r :: st) M') : lV L xs pc ls (a2 :: a1 :: zr 0 :: st) M := l_callV (μ' := zd_S_keeps) (n := 2) (av := [a1, a2]) (q := 0) (ci := 7) (C := RX8) (Tt := TX8) (N := 8) rfl (by decide) rfl lm_40 zk_im_S_keeps zk_sel_S_keeps zk_ini_S zk_code_S_keeps (by decide +kernel) rfl (by decide) ⟨_, rfl⟩ hd hdd hst hSp kk
theorem lm_44 : Cond.methodLink R_law 44 yX8_breaks ∈ zAll := zAll_of 535 (by decide +kernel) (by decide +kernel)
theorem lc_44 {L : Nat} {xs : Nat → Int32} {d' pc : Nat} {ls : List (Option zAV)} {st : List zAV} {M : zMem} {post' : Int → zMem → Prop} {a1 a2 : zAV} (hd : decode code pc = .ok (.invokevirtual 44, 3)) (hdd : d' ≤ 7) (hst : zcat st ≤ 8) (hSp : zSp zd_S_breaks d' [zr 0, a1, a2] M post') (kk : ∀ r M', post' r M' → lV L xs (pc + 3) ls (zi r :: st) M') : lV L xs pc ls (a2 :: a1 :: zr 0 :: st) M := l_callV (μ' := zd_S_breaks) (n := 2) (av := [a1, a2]) (q := 0) (ci := 7) (C := RX8) (Tt := TX8) (N := 8) rfl (by decide) rfl lm_44 zk_im_S_breaks zk_sel_S_breaks zk_ini_S zk_code_S_breaks (by decide +kernel) rfl (by decide) ⟨_, rfl⟩ hd hdd hst hSp kk
theorem lm_48 : Cond.methodLink R_law 48 yX8_plain ∈ zAll := zAll_of 539 (by decide +kernel) (by decide +kernel)
theorem lc_48 {L : Nat} {xs : Nat → Int32} {d' pc : Nat} {ls : List (Option zAV)} {st : List zAV} {M : zMem} {post' : Int → zMem → Prop} {a1 a2 : zAV} (hd : decode code pc = .ok (.invokevirtual 48, 3)) (hdd : d' ≤ 7) (hst : zcat st ≤ 8) (hSp : zSp zd_S_plain d' [zr 0, a1, a2] M post') (kk : ∀ r M', post' r M' → lV L xs (pc + 3) ls (zi r :: st) M') : lV L xs pc ls (a2 :: a1 :: zr 0 :: st) M := l_callV (μ' := zd_S_plain) (n := 2) (av := [a1, a2]) (q := 0) (ci := 7) (C := RX8) (Tt := TX8) (N := 8) rfl (by decide) rfl lm_48 zk_im_S_plain zk_sel_S_plain zk_ini_S zk_code_S_plain (by decide +kernel) rfl (by decide) ⟨_, rfl⟩ hd hdd hst hSp kk
theorem lm_52 : Cond.methodLink R_law 52 yX8_list ∈ zAll := zAll_of 552 (by decide +kernel) (by decide +kernel)
theorem lc_52 {L : Nat} {xs : Nat → Int32} {d' pc : Nat} {ls : List (Option zAV)} {st : List zAV} {M : zMem} {post' : Int → zMem → Prop} {a1 : zAV} (hd : decode code pc = .ok (.invokevirtual 52, 3)) (hdd : d' ≤ 7) (hst : zcat st ≤ 8) (hSp : zSp zd_S_list d' [zr 0, a1] M post') (kk : ∀ r M', post' r M' → lV L xs (pc + 3) ls (zi r :: st) M') : lV L xs pc ls (a1 :: zr 0 :: st) M := l_callV (μ' := zd_S_list) (n := 1) (av := [a1]) (q := 0) (ci := 7) (C := RX8) (Tt := TX8) (N := 8) rfl (by decide) rfl lm_52 zk_im_S_list zk_sel_S_list zk_ini_S zk_code_S_list (by decide +kernel) rfl (by decide) ⟨_, rfl⟩ hd hdd hst hSp kk
theorem lm_57 : Cond.methodLink R_law 57 yX8_world ∈ zAll := zAll_of 556 (by decide +kernel) (by decide +kernel)
theorem lc_57 {L : Nat} {xs : Nat → Int32} {d' pc : Nat} {ls : List (Option zAV)} {st : List zAV} {M : zMem} {post' : Int → zMem → Prop} {a1 a2 : zAV} (hd : decode code pc = .ok (.invokevirtual 57, 3)) (hdd : d' ≤ 7) (hst : zcat st ≤ 8) (hSp : zSp zd_S_world d' [zr 0, a1, a2] M post') (kk : ∀ r M', post' r M' → lV L xs (pc + 3) ls (zi r :: st) M') : lV L xs pc ls (a2 :: a1 :: zr 0 :: st) M := l_callV (μ' := zd_S_world) (n := 2) (av := [a1, a2]) (q := 0) (ci := 7) (C := RX8) (Tt := TX8) (N := 8) rfl (by decide) rfl lm_57 zk_im_S_world zk_sel_S_world zk_ini_S zk_code_S_world (by decide +kernel) rfl (by decide) ⟨_, rfl⟩ hd hdd hst hSp kk
theorem lm_61 : Cond.methodLink R_law 61 yX8_make ∈ zAll := zAll_of 568 (by decide +kernel) (by decide +kernel)
theorem lc_61 {L : Nat} {xs : Nat → Int32} {d' pc : Nat} {ls : List (Option zAV)} {st : List zAV} {M : zMem} {post' : Int → zMem → Prop} {a1 a2 a3 : zAV} (hd : decode code pc = .ok (.invokevirtual 61, 3)) (hdd : d' ≤ 7) (hst : zcat st ≤ 8) (hSp : zSp zd_S_make d' [zr 0, a1, a2, a3] M post') (kk : ∀ r M', post' r M' → lV L xs (pc + 3) ls (zi r :: st) M') : lV L xs pc ls (a3 :: a2 :: a1 :: zr 0 :: st) M := l_callV (μ' := zd_S_make) (n := 3) (av := [a1, a2, a3]) (q := 0) (ci := 7) (C := RX8) (Tt := TX8) (N := 8) rfl (by decide) rfl lm_61 zk_im_S_make zk_sel_S_make zk_ini_S zk_code_S_make (by decide +kernel) rfl (by decide) ⟨_, rfl⟩ hd hdd hst hSp kk
theorem lm_66 : Cond.methodLink R_law 66 yX8_yes ∈ zAll := zAll_of 588 (by decide +kernel) (by decide +kernel)
theorem lc_66 {L : Nat} {xs : Nat → Int32} {d' pc : Nat} {ls : List (Option zAV)} {st : List zAV} {M : zMem} {post' : Int → zMem → Prop} {a1 a2 a3 a4 : zAV} (hd : decode code pc = .ok (.invokevirtual 66, 3)) (hdd : d' ≤ 7) (hst : zcat st ≤ 8) (hSp : zSp zd_S_yes d' [zr 0, a1, a2, a3, a4] M post') (kk : ∀ r M', post' r M' → lV L xs (pc + 3) ls (zi r :: st) M') : lV L xs pc ls (a4 :: a3 :: a2 :: a1 :: zr 0 :: st) M := l_callV (μ' := zd_S_yes) (n := 4) (av := [a1, a2, a3, a4]) (q := 0) (ci := 7) (C := RX8) (Tt := TX8) (N := 8) rfl (by decide) rfl lm_66 zk_im_S_yes zk_sel_S_yes zk_ini_S zk_code_S_yes (by decide +kernel) rfl (by decide) ⟨_, rfl⟩ hd hdd hst hSp kk
theorem lm_71 : Cond.methodLink R_law 71 yX8_many ∈ zAll := zAll_of 596 (by decide +kernel) (by decide +kernel)
theorem lc_71 {L : Nat} {xs : Nat → Int32} {d' pc : Nat} {ls : List (Option zAV)} {st : List zAV} {M : zMem} {post' : Int → zMem → Prop} {a1 : zAV} (hd : decode code pc = .ok (.invokevirtual 71, 3)) (hdd : d' ≤ 7) (hst : zcat st ≤ 8) (hSp : zSp zd_S_many d' [zr 0, a1] M post') (kk : ∀ r M', post' r M' → lV L xs (pc + 3) ls (zi r :: st) M') : lV L xs pc ls (a1 :: zr 0 :: st) M := l_callV (μ' := zd_S_many) (n := 1) (av := [a1]) (q := 0) (ci := 7) (C := RX8) (Tt := TX8) (N := 8) rfl (by decide) rfl lm_71 zk_im_S_many zk_sel_S_many zk_ini_S zk_code_S_many (by decide +kernel) rfl (by decide) ⟨_, rfl⟩ hd hdd hst hSp kk
theorem lm_75 : Cond.methodLink R_law 75 yX8_twin ∈ zAll := zAll_of 611 (by decide +kernel) (by decide +kernel)
theorem lc_75 {L : Nat} {xs : Nat → Int32} {d' pc : Nat} {ls : List (Option zAV)} {st : List zAV} {M : zMem} {post' : Int → zMem → Prop} {a1 : zAV} (hd : decode code pc = .ok (.invokevirtual 75, 3)) (hdd : d' ≤ 7) (hst : zcat st ≤ 8) (hSp : zSp zd_S_twin d' [zr 0, a1] M post') (kk : ∀ r M', post' r M' → lV L xs (pc + 3) ls (zi r :: st) M') : lV L xs pc ls (a1 :: zr 0 :: st) M := l_callV (μ' := zd_S_twin) (n := 1) (av := [a1]) (q := 0) (ci := 7) (C := RX8) (Tt := TX8) (N := 8) rfl (by decide) rfl lm_75 zk_im_S_twin zk_sel_S_twin zk_ini_S zk_code_S_twin (by decide +kernel) rfl (by decide) ⟨_, rfl⟩ hd hdd hst hSp kk
theorem lm_79 : Cond.methodLink R_law 79 yX8_butFor ∈ zAll := zAll_of 619 (by decide +kernel) (by decide +kernel)
theorem lc_79 {L : Nat} {xs : Nat → Int32} {d' pc : Nat} {ls : List (Option zAV)} {st : List zAV} {M : zMem} {post' : Int → zMem → Prop} {a1 a2 : zAV} (hd : decode code pc = .ok (.invokevirtual 79, 3)) (hdd : d' ≤ 7) (hst : zcat st ≤ 8) (hSp : zSp zd_S_butFor d' [zr 0, a1, a2] M post') (kk : ∀ r M', post' r M' → lV L xs (pc + 3) ls (zi r :: st) M') : lV L xs pc ls (a2 :: a1 :: zr 0 :: st) M := l_callV (μ' := zd_S_butFor) (n := 2) (av := [a1, a2]) (q := 0) (ci := 7) (C := RX8) (Tt := TX8) (N := 8) rfl (by decide) rfl lm_79 zk_im_S_butFor zk_sel_S_butFor zk_ini_S zk_code_S_butFor (by decide +kernel) rfl (by decide) ⟨_, rfl⟩ hd hdd hst hSp kk
theorem lm_83 : Cond.methodLink R_law 83 yX8_look ∈ zAll := zAll_of 627 (by decide +kernel) (by decide +kernel)
theorem lc_83 {L : Nat} {xs : Nat → Int32} {d' pc : Nat} {ls : List (Option zAV)} {st : List zAV} {M : zMem} {post' : Int → zMem → Prop} {a1 a2 a3 : zAV} (hd : decode code pc = .ok (.invokevirtual 83, 3)) (hdd : d' ≤ 7) (hst : zcat st ≤ 8) (hSp : zSp zd_S_look d' [zr 0, a1, a2, a3] M post') (kk : ∀ r M', post' r M' → lV L xs (pc + 3) ls (zi r :: st) M') : lV L xs pc ls (a3 :: a2 :: a1 :: zr 0 :: st) M := l_callV (μ' := zd_S_look) (n := 3) (av := [a1, a2, a3]) (q := 0) (ci := 7) (C := RX8) (Tt := TX8) (N := 8) rfl (by decide) rfl lm_83 zk_im_S_look zk_sel_S_look zk_ini_S zk_code_S_look (by decide +kernel) rfl (by decide) ⟨_, rfl⟩ hd hdd hst hSp kk
theorem lm_87 : Cond.methodLink R_law 87 yX8_never ∈ zAll := zAll_of 635 (by decide +kernel) (by decide +kernel)
theorem lc_87 {L : Nat} {xs : Nat → Int32} {d' pc : Nat} {ls : List (Option zAV)} {st : List zAV} {M : zMem} {post' : Int → zMem → Prop} {a1 a2 : zAV} (hd : decode code pc = .ok (.invokevirtual 87, 3)) (hdd : d' ≤ 7) (hst : zcat st ≤ 8) (hSp : zSp zd_S_never d' [zr 0, a1, a2] M post') (kk : ∀ r M', post' r M' → lV L xs (pc + 3) ls (zi r :: st) M') : lV L xs pc ls (a2 :: a1 :: zr 0 :: st) M := l_callV (μ' := zd_S_never) (n := 2) (av := [a1, a2]) (q := 0) (ci := 7) (C := RX8) (Tt := TX8) (N := 8) rfl (by decide) rfl lm_87 zk_im_S_never zk_sel_S_never zk_ini_S zk_code_S_never (by decide +kernel) rfl (by decide) ⟨_, rfl⟩ hd hdd hst hSp kk
theorem lm_91 : Cond.methodLink R_law 91 yX8_deny ∈ zAll := zAll_of 643 (by decide +kernel) (by decide +kernel)
theorem lc_91 {L : Nat} {xs : Nat → Int32} {d' pc : Nat} {ls : List (Option zAV)} {st : List zAV} {M : zMem} {post' : Int → zMem → Prop} {a1 a2 : zAV} (hd : decode code pc = .ok (.invokevirtual 91, 3)) (hdd : d' ≤ 7) (hst : zcat st ≤ 8) (hSp : zSp zd_S_deny d' [zr 0, a1, a2] M post') (kk : ∀ r M', post' r M' → lV L xs (pc + 3) ls (zi r :: st) M') : lV L xs pc ls (a2 :: a1 :: zr 0 :: st) M := l_callV (μ' := zd_S_deny) (n := 2) (av := [a1, a2]) (q := 0) (ci := 7) (C := RX8) (Tt := TX8) (N := 8) rfl (by decide) rfl lm_91 zk_im_S_deny zk_sel_S_deny zk_ini_S zk_code_S_deny (by decide +kernel) rfl (by decide) ⟨_, rfl⟩ hd hdd hst hSp kk
theorem lm_95 : Cond.methodLink R_law 95 yX8_weigh ∈ zAll := zAll_of 657 (by decide +kernel) (by decide +kernel)
theorem lc_95 {L : Nat} {xs : Nat → Int32} {d' pc : Nat} {ls : List (Option zAV)} {st : List zAV} {M : zMem} {post' : Int → zMem → Prop} {a1 a2 : zAV} (hd : decode code pc = .ok (.invokevirtual 95, 3)) (hdd : d' ≤ 7) (hst : zcat st ≤ 8) (hSp : zSp zd_S_weigh d' [zr 0, a1, a2] M post') (kk : ∀ r M', post' r M' → lV L xs (pc + 3) ls (zi r :: st) M') : lV L xs pc ls (a2 :: a1 :: zr 0 :: st) M := l_callV (μ' := zd_S_weigh) (n := 2) (av := [a1, a2]) (q := 0) (ci := 7) (C := RX8) (Tt := TX8) (N := 8) rfl (by decide) rfl lm_95 zk_im_S_weigh zk_sel_S_weigh zk_ini_S zk_code_S_weigh (by decide +kernel) rfl (by decide) ⟨_, rfl⟩ hd hdd hst hSp kk
theorem lm_99 : Cond.methodLink R_law 99 yX8_wake ∈ zAll := zAll_of 661 (by decide +kernel) (by decide +kernel)
theorem lc_99 {L : Nat} {xs : Nat → Int32} {d' pc : Nat} {ls : List (Option zAV)} {st : List zAV} {M : zMem} {post' : Int → zMem → Prop} {a1 a2 : zAV} (hd : decode code pc = .ok (.invokevirtual 99, 3)) (hdd : d' ≤ 7) (hst : zcat st ≤ 8) (hSp : zSp zd_S_wake d' [zr 0, a1, a2] M post') (kk : ∀ r M', post' r M' → lV L xs (pc + 3) ls (zi r :: st) M') : lV L xs pc ls (a2 :: a1 :: zr 0 :: st) M := l_callV (μ' := zd_S_wake) (n := 2) (av := [a1, a2]) (q := 0) (ci := 7) (C := RX8) (Tt := TX8) (N := 8) rfl (by decide) rfl lm_99 zk_im_S_wake zk_sel_S_wake zk_ini_S zk_code_S_wake (by decide +kernel) rfl (by decide) ⟨_, rfl⟩ hd hdd hst hSp kk
theorem lm_103 : Cond.methodLink R_law 103 yX8_worth ∈ zAll := zAll_of 665 (by decide +kernel) (by decide +kernel)
theorem lc_103 {L : Nat} {xs : Nat → Int32} {d' pc : Nat} {ls : List (Option zAV)} {st : List zAV} {M : zMem} {post' : Int → zMem → Prop} {a1 a2 : zAV} (hd : decode code pc = .ok (.invokevirtual 103, 3)) (hdd : d' ≤ 7) (hst : zcat st ≤ 8) (hSp : zSp zd_S_worth d' [zr 0, a1, a2] M post') (kk : ∀ r M', post' r M' → lV L xs (pc + 3) ls (zi r :: st) M') : lV L xs pc ls (a2 :: a1 :: zr 0 :: st) M := l_callV (μ' := zd_S_worth) (n := 2) (av := [a1, a2]) (q := 0) (ci := 7) (C := RX8) (Tt := TX8) (N := 8) rfl (by decide) rfl lm_103 zk_im_S_worth zk_sel_S_worth zk_ini_S zk_code_S_worth (by decide +kernel) rfl (by decide) ⟨_, rfl⟩ hd hdd hst hSp kk
theorem lm_107 : Cond.methodLink R_law 107 yX8_best ∈ zAll := zAll_of 686 (by decide +kernel) (by decide +kernel)
theorem lc_107 {L : Nat} {xs : Nat → Int32} {d' pc : Nat} {ls : List (Option zAV)} {st : List zAV} {M : zMem} {post' : Int → zMem → Prop} (hd : decode code pc = .ok (.invokevirtual 107, 3)) (hdd : d' ≤ 7) (hst : zcat st ≤ 8) (hSp : zSp zd_S_best d' [zr 0] M post') (kk : ∀ r M', post' r M' → lV L xs (pc + 3) ls (zi r :: st) M') : lV L xs pc ls (zr 0 :: st) M := l_callV (μ' := zd_S_best) (n := 0) (av := []) (q := 0) (ci := 7) (C := RX8) (Tt := TX8) (N := 8) rfl (by decide) rfl lm_107 zk_im_S_best zk_sel_S_best zk_ini_S zk_code_S_best (by decide +kernel) rfl (by decide) ⟨_, rfl⟩ hd hdd hst hSp kk
theorem lm_111 : Cond.methodLink R_law 111 yX8_next ∈ zAll := zAll_of 690 (by decide +kernel) (by decide +kernel)
theorem lc_111 {L : Nat} {xs : Nat → Int32} {d' pc : Nat} {ls : List (Option zAV)} {st : List zAV} {M : zMem} {post' : Int → zMem → Prop} (hd : decode code pc = .ok (.invokevirtual 111, 3)) (hdd : d' ≤ 7) (hst : zcat st ≤ 8) (hSp : zSp zd_S_next d' [zr 0] M post') (kk : ∀ r M', post' r M' → lV L xs (pc + 3) ls (zi r :: st) M') : lV L xs pc ls (zr 0 :: st) M := l_callV (μ' := zd_S_next) (n := 0) (av := []) (q := 0) (ci := 7) (C := RX8) (Tt := TX8) (N := 8) rfl (by decide) rfl lm_111 zk_im_S_next zk_sel_S_next zk_ini_S zk_code_S_next (by decide +kernel) rfl (by decide) ⟨_, rfl⟩ hd hdd hst hSp kk
theorem lm_115 : Cond.methodLink R_law 115 yX8_makeNext ∈ zAll := zAll_of 716 (by decide +kernel) (by decide +kernel)
theorem lc_115 {L : Nat} {xs : Nat → Int32} {d' pc : Nat} {ls : List (Option zAV)} {st : List zAV} {M : zMem} {post' : Int → zMem → Prop} (hd : decode code pc = .ok (.invokevirtual 115, 3)) (hdd : d' ≤ 7) (hst : zcat st ≤ 8) (hSp : zSp zd_S_makeNext d' [zr 0] M post') (kk : ∀ r M', post' r M' → lV L xs (pc + 3) ls (zi r :: st) M') : lV L xs pc ls (zr 0 :: st) M := l_callV (μ' := zd_S_makeNext) (n := 0) (av := []) (q := 0) (ci := 7) (C := RX8) (Tt := TX8) (N := 8) rfl (by decide) rfl lm_115 zk_im_S_makeNext zk_sel_S_makeNext zk_ini_S zk_code_S_makeNext (by decide +kernel) rfl (by decide) ⟨_, rfl⟩ hd hdd hst hSp kk
theorem lm_119 : Cond.methodLink R_law 119 yX8_needed ∈ zAll := zAll_of 720 (by decide +kernel) (by decide +kernel)
theorem lc_119 {L : Nat} {xs : Nat → Int32} {d' pc : Nat} {ls : List (Option zAV)} {st : List zAV} {M : zMem} {post' : Int → zMem → Prop} {a1 : zAV} (hd : decode code pc = .ok (.invokevirtual 119, 3)) (hdd : d' ≤ 7) (hst : zcat st ≤ 8) (hSp : zSp zd_S_needed d' [zr 0, a1] M post') (kk : ∀ r M', post' r M' → lV L xs (pc + 3) ls (zi r :: st) M') : lV L xs pc ls (a1 :: zr 0 :: st) M := l_callV (μ' := zd_S_needed) (n := 1) (av := [a1]) (q := 0) (ci := 7) (C := RX8) (Tt := TX8) (N := 8) rfl (by decide) rfl lm_119 zk_im_S_needed zk_sel_S_needed zk_ini_S zk_code_S_needed (by decide +kernel) rfl (by decide) ⟨_, rfl⟩ hd hdd hst hSp kk
theorem lm_123 : Cond.methodLink R_law 123 yX8_least ∈ zAll := zAll_of 728 (by decide +kernel) (by decide +kernel)
theorem lc_123 {L : Nat} {xs : Nat → Int32} {d' pc : Nat} {ls : List (Option zAV)} {st : List zAV} {M : zMem} {post' : Int → zMem → Prop} (hd : decode code pc = .ok (.invokevirtual 123, 3)) (hdd : d' ≤ 7) (hst : zcat st ≤ 8) (hSp : zSp zd_S_least d' [zr 0] M post') (kk : ∀ r M', post' r M' → lV L xs (pc + 3) ls (zi r :: st) M') : lV L xs pc ls (zr 0 :: st) M := l_callV (μ' := zd_S_least) (n := 0) (av := []) (q := 0) (ci := 7) (C := RX8) (Tt := TX8) (N := 8) rfl (by decide) rfl lm_123 zk_im_S_least zk_sel_S_least zk_ini_S zk_code_S_least (by decide +kernel) rfl (by decide) ⟨_, rfl⟩ hd hdd hst hSp kk
theorem lm_127 : Cond.methodLink R_law 127 yX8_even ∈ zAll := zAll_of 732 (by decide +kernel) (by decide +kernel)
theorem lc_127 {L : Nat} {xs : Nat → Int32} {d' pc : Nat} {ls : List (Option zAV)} {st : List zAV} {M : zMem} {post' : Int → zMem → Prop} (hd : decode code pc = .ok (.invokevirtual 127, 3)) (hdd : d' ≤ 7) (hst : zcat st ≤ 8) (hSp : zSp zd_S_even d' [zr 0] M post') (kk : ∀ r M', post' r M' → lV L xs (pc + 3) ls (zi r :: st) M') : lV L xs pc ls (zr 0 :: st) M := l_callV (μ' := zd_S_even) (n := 0) (av := []) (q := 0) (ci := 7) (C := RX8) (Tt := TX8) (N := 8) rfl (by decide) rfl lm_127 zk_im_S_even zk_sel_S_even zk_ini_S zk_code_S_even (by decide +kernel) rfl (by decide) ⟨_, rfl⟩ hd hdd hst hSp kk
theorem lm_131 : Cond.methodLink R_law 131 yX8_keep ∈ zAll := zAll_of 753 (by decide +kernel) (by decide +kernel)
theorem lc_131 {L : Nat} {xs : Nat → Int32} {d' pc : Nat} {ls : List (Option zAV)} {st : List zAV} {M : zMem} {post' : Int → zMem → Prop} {a1 : zAV} (hd : decode code pc = .ok (.invokevirtual 131, 3)) (hdd : d' ≤ 7) (hst : zcat st ≤ 8) (hSp : zSp zd_S_keep d' [zr 0, a1] M post') (kk : ∀ r M', post' r M' → lV L xs (pc + 3) ls (zi r :: st) M') : lV L xs pc ls (a1 :: zr 0 :: st) M := l_callV (μ' := zd_S_keep) (n := 1) (av := [a1]) (q := 0) (ci := 7) (C := RX8) (Tt := TX8) (N := 8) rfl (by decide) rfl lm_131 zk_im_S_keep zk_sel_S_keep zk_ini_S zk_code_S_keep (by decide +kernel) rfl (by decide) ⟨_, rfl⟩ hd hdd hst hSp kk
theorem lm_135 : Cond.methodLink R_law 135 yX8_same ∈ zAll := zAll_of 764 (by decide +kernel) (by decide +kernel)
theorem lc_135 {L : Nat} {xs : Nat → Int32} {d' pc : Nat} {ls : List (Option zAV)} {st : List zAV} {M : zMem} {post' : Int → zMem → Prop} {a1 : zAV} (hd : decode code pc = .ok (.invokevirtual 135, 3)) (hdd : d' ≤ 7) (hst : zcat st ≤ 8) (hSp : zSp zd_S_same d' [zr 0, a1] M post') (kk : ∀ r M', post' r M' → lV L xs (pc + 3) ls (zi r :: st) M') : lV L xs pc ls (a1 :: zr 0 :: st) M := l_callV (μ' := zd_S_same) (n := 1) (av := [a1]) (q := 0) (ci := 7) (C := RX8) (Tt := TX8) (N := 8) rfl (by decide) rfl lm_135 zk_im_S_same zk_sel_S_same zk_ini_S zk_code_S_same (by decide +kernel) rfl (by decide) ⟨_, rfl⟩ hd hdd hst hSp kk
theorem lm_139 : Cond.methodLink R_law 139 yX8_shown ∈ zAll := zAll_of 772 (by decide +kernel) (by decide +kernel)
theorem lc_139 {L : Nat} {xs : Nat → Int32} {d' pc : Nat} {ls : List (Option zAV)} {st : List zAV} {M : zMem} {post' : Int → zMem → Prop} {a1 a2 : zAV} (hd : decode code pc = .ok (.invokevirtual 139, 3)) (hdd : d' ≤ 7) (hst : zcat st ≤ 8) (hSp : zSp zd_S_shown d' [zr 0, a1, a2] M post') (kk : ∀ r M', post' r M' → lV L xs (pc + 3) ls (zi r :: st) M') : lV L xs pc ls (a2 :: a1 :: zr 0 :: st) M := l_callV (μ' := zd_S_shown) (n := 2) (av := [a1, a2]) (q := 0) (ci := 7) (C := RX8) (Tt := TX8) (N := 8) rfl (by decide) rfl lm_139 zk_im_S_shown zk_sel_S_shown zk_ini_S zk_code_S_shown (by decide +kernel) rfl (by decide) ⟨_, rfl⟩ hd hdd hst hSp kk
theorem lm_143 : Cond.methodLink R_law 143 yX8_groups ∈ zAll := zAll_of 820 (by decide +kernel) (by decide +kernel)
theorem lc_143 {L : Nat} {xs : Nat → Int32} {d' pc : Nat} {ls : List (Option zAV)} {st : List zAV} {M : zMem} {post' : Int → zMem → Prop} (hd : decode code pc = .ok (.invokevirtual 143, 3)) (hdd : d' ≤ 7) (hst : zcat st ≤ 8) (hSp : zSp zd_S_groups d' [zr 0] M post') (kk : ∀ r M', post' r M' → lV L xs (pc + 3) ls (zi r :: st) M') : lV L xs pc ls (zr 0 :: st) M := l_callV (μ' := zd_S_groups) (n := 0) (av := []) (q := 0) (ci := 7) (C := RX8) (Tt := TX8) (N := 8) rfl (by decide) rfl lm_143 zk_im_S_groups zk_sel_S_groups zk_ini_S zk_code_S_groups (by decide +kernel) rfl (by decide) ⟨_, rfl⟩ hd hdd hst hSp kk
theorem lm_147 : Cond.methodLink R_law 147 yX8_first ∈ zAll := zAll_of 828 (by decide +kernel) (by decide +kernel)
theorem lc_147 {L : Nat} {xs : Nat → Int32} {d' pc : Nat} {ls : List (Option zAV)} {st : List zAV} {M : zMem} {post' : Int → zMem → Prop} {a1 : zAV} (hd : decode code pc = .ok (.invokevirtual 147, 3)) (hdd : d' ≤ 7) (hst : zcat st ≤ 8) (hSp : zSp zd_S_first d' [zr 0, a1] M post') (kk : ∀ r M', post' r M' → lV L xs (pc + 3) ls (zi r :: st) M') : lV L xs pc ls (a1 :: zr 0 :: st) M := l_callV (μ' := zd_S_first) (n := 1) (av := [a1]) (q := 0) (ci := 7) (C := RX8) (Tt := TX8) (N := 8) rfl (by decide) rfl lm_147 zk_im_S_first zk_sel_S_first zk_ini_S zk_code_S_first (by decide +kernel) rfl (by decide) ⟨_, rfl⟩ hd hdd hst hSp kk
theorem lm_151 : Cond.methodLink R_law 151 yX8_count ∈ zAll := zAll_of 832 (by decide +kernel) (by decide +kernel)
theorem lc_151 {L : Nat} {xs : Nat → Int32} {d' pc : Nat} {ls : List (Option zAV)} {st : List zAV} {M : zMem} {post' : Int → zMem → Prop} {a1 : zAV} (hd : decode code pc = .ok (.invokevirtual 151, 3)) (hdd : d' ≤ 7) (hst : zcat st ≤ 8) (hSp : zSp zd_S_count d' [zr 0, a1] M post') (kk : ∀ r M', post' r M' → lV L xs (pc + 3) ls (zi r :: st) M') : lV L xs pc ls (a1 :: zr 0 :: st) M := l_callV (μ' := zd_S_count) (n := 1) (av := [a1]) (q := 0) (ci := 7) (C := RX8) (Tt := TX8) (N := 8) rfl (by decide) rfl lm_151 zk_im_S_count zk_sel_S_count zk_ini_S zk_code_S_count (by decide +kernel) rfl (by decide) ⟨_, rfl⟩ hd hdd hst hSp kk
theorem lm_17 : Cond.methodLink R_law 17 yX9_put ∈ zAll := zAll_of 961 (by decide +kernel) (by decide +kernel)
theorem lc_17 {L : Nat} {xs : Nat → Int32} {d' pc : Nat} {ls : List (Option zAV)} {st : List zAV} {M : zMem} {post' : Int → zMem → Prop} {a1 a2 : zAV} (hd : decode code pc = .ok (.invokevirtual 17, 3)) (hdd : d' ≤ 7) (hst : zcat st ≤ 8) (hSp : zSp zd_Model_put d' [zr 9, a1, a2] M post') (kk : ∀ r M', post' r M' → lV L xs (pc + 3) ls (zi r :: st) M') : lV L xs pc ls (a2 :: a1 :: zr 9 :: st) M := l_callV (μ' := zd_Model_put) (n := 2) (av := [a1, a2]) (q := 9) (ci := 8) (C := RX9) (Tt := TX9) (N := 38) rfl (by decide) rfl lm_17 zk_im_Model_put zk_sel_Model_put zk_ini_Model zk_code_Model_put (by decide +kernel) rfl (by decide) ⟨_, rfl⟩ hd hdd hst hSp kk
theorem lm_22 : Cond.methodLink R_law 22 yX9_part ∈ zAll := zAll_of 972 (by decide +kernel) (by decide +kernel)
theorem lc_22 {L : Nat} {xs : Nat → Int32} {d' pc : Nat} {ls : List (Option zAV)} {st : List zAV} {M : zMem} {post' : Int → zMem → Prop} {a1 a2 : zAV} (hd : decode code pc = .ok (.invokevirtual 22, 3)) (hdd : d' ≤ 7) (hst : zcat st ≤ 8) (hSp : zSp zd_Model_part d' [zr 9, a1, a2] M post') (kk : ∀ r M', post' r M' → lV L xs (pc + 3) ls (zi r :: st) M') : lV L xs pc ls (a2 :: a1 :: zr 9 :: st) M := l_callV (μ' := zd_Model_part) (n := 2) (av := [a1, a2]) (q := 9) (ci := 8) (C := RX9) (Tt := TX9) (N := 38) rfl (by decide) rfl lm_22 zk_im_Model_part zk_sel_Model_part zk_ini_Model zk_code_Model_part (by decide +kernel) rfl (by decide) ⟨_, rfl⟩ hd hdd hst hSp kk
theorem lm_26 : Cond.methodLink R_law 26 yX9_law ∈ zAll := zAll_of 976 (by decide +kernel) (by decide +kernel)
theorem lc_26 {L : Nat} {xs : Nat → Int32} {d' pc : Nat} {ls : List (Option zAV)} {st : List zAV} {M : zMem} {post' : Int → zMem → Prop} {a1 a2 : zAV} (hd : decode code pc = .ok (.invokevirtual 26, 3)) (hdd : d' ≤ 7) (hst : zcat st ≤ 8) (hSp : zSp zd_Model_law d' [zr 9, a1, a2] M post') (kk : ∀ r M', post' r M' → lV L xs (pc + 3) ls (zi r :: st) M') : lV L xs pc ls (a2 :: a1 :: zr 9 :: st) M := l_callV (μ' := zd_Model_law) (n := 2) (av := [a1, a2]) (q := 9) (ci := 8) (C := RX9) (Tt := TX9) (N := 38) rfl (by decide) rfl lm_26 zk_im_Model_law zk_sel_Model_law zk_ini_Model zk_code_Model_law (by decide +kernel) rfl (by decide) ⟨_, rfl⟩ hd hdd hst hSp kk
theorem lm_31 : Cond.methodLink R_law 31 yX9_unlaw ∈ zAll := zAll_of 980 (by decide +kernel) (by decide +kernel)
theorem lc_31 {L : Nat} {xs : Nat → Int32} {d' pc : Nat} {ls : List (Option zAV)} {st : List zAV} {M : zMem} {post' : Int → zMem → Prop} (hd : decode code pc = .ok (.invokevirtual 31, 3)) (hdd : d' ≤ 7) (hst : zcat st ≤ 8) (hSp : zSp zd_Model_unlaw d' [zr 9] M post') (kk : ∀ r M', post' r M' → lV L xs (pc + 3) ls (zi r :: st) M') : lV L xs pc ls (zr 9 :: st) M := l_callV (μ' := zd_Model_unlaw) (n := 0) (av := []) (q := 9) (ci := 8) (C := RX9) (Tt := TX9) (N := 38) rfl (by decide) rfl lm_31 zk_im_Model_unlaw zk_sel_Model_unlaw zk_ini_Model zk_code_Model_unlaw (by decide +kernel) rfl (by decide) ⟨_, rfl⟩ hd hdd hst hSp kk
theorem lm_35 : Cond.methodLink R_law 35 yX9_worlds ∈ zAll := zAll_of 984 (by decide +kernel) (by decide +kernel)
theorem lc_35 {L : Nat} {xs : Nat → Int32} {d' pc : Nat} {ls : List (Option zAV)} {st : List zAV} {M : zMem} {post' : Int → zMem → Prop} {a1 a2 : zAV} (hd : decode code pc = .ok (.invokevirtual 35, 3)) (hdd : d' ≤ 7) (hst : zcat st ≤ 8) (hSp : zSp zd_Model_worlds d' [zr 9, a1, a2] M post') (kk : ∀ r M', post' r M' → lV L xs (pc + 3) ls (zi r :: st) M') : lV L xs pc ls (a2 :: a1 :: zr 9 :: st) M := l_callV (μ' := zd_Model_worlds) (n := 2) (av := [a1, a2]) (q := 9) (ci := 8) (C := RX9) (Tt := TX9) (N := 38) rfl (by decide) rfl lm_35 zk_im_Model_worlds zk_sel_Model_worlds zk_ini_Model zk_code_Model_worlds (by decide +kernel) rfl (by decide) ⟨_, rfl⟩ hd hdd hst hSp kk
theorem lm_39 : Cond.methodLink R_law 39 yX9_number ∈ zAll := zAll_of 1038 (by decide +kernel) (by decide +kernel)
theorem lc_39 {L : Nat} {xs : Nat → Int32} {d' pc : Nat} {ls : List (Option zAV)} {st : List zAV} {M : zMem} {post' : Int → zMem → Prop} {a1 a2 : zAV} (hd : decode code pc = .ok (.invokevirtual 39, 3)) (hdd : d' ≤ 7) (hst : zcat st ≤ 8) (hSp : zSp zd_Model_number d' [zr 9, a1, a2] M post') (kk : ∀ r M', post' r M' → lV L xs (pc + 3) ls (zi r :: st) M') : lV L xs pc ls (a2 :: a1 :: zr 9 :: st) M := l_callV (μ' := zd_Model_number) (n := 2) (av := [a1, a2]) (q := 9) (ci := 8) (C := RX9) (Tt := TX9) (N := 38) rfl (by decide) rfl lm_39 zk_im_Model_number zk_sel_Model_number zk_ini_Model zk_code_Model_number (by decide +kernel) rfl (by decide) ⟨_, rfl⟩ hd hdd hst hSp kk
theorem lm_43 : Cond.methodLink R_law 43 yX9_keeps ∈ zAll := zAll_of 1042 (by decide +kernel) (by decide +kernel)
theorem lc_43 {L : Nat} {xs : Nat → Int32} {d' pc : Nat} {ls : List (Option zAV)} {st : List zAV} {M : zMem} {post' : Int → zMem → Prop} {a1 a2 : zAV} (hd : decode code pc = .ok (.invokevirtual 43, 3)) (hdd : d' ≤ 7) (hst : zcat st ≤ 8) (hSp : zSp zd_Model_keeps d' [zr 9, a1, a2] M post') (kk : ∀ r M', post' r M' → lV L xs (pc + 3) ls (zi r :: st) M') : lV L xs pc ls (a2 :: a1 :: zr 9 :: st) M := l_callV (μ' := zd_Model_keeps) (n := 2) (av := [a1, a2]) (q := 9) (ci := 8) (C := RX9) (Tt := TX9) (N := 38) rfl (by decide) rfl lm_43 zk_im_Model_keeps zk_sel_Model_keeps zk_ini_Model zk_code_Model_keeps (by decide +kernel) rfl (by decide) ⟨_, rfl⟩ hd hdd hst hSp kk
theorem lm_47 : Cond.methodLink R_law 47 yX9_breaks ∈ zAll := zAll_of 1049 (by decide +kernel) (by decide +kernel)
theorem lc_47 {L : Nat} {xs : Nat → Int32} {d' pc : Nat} {ls : List (Option zAV)} {st : List zAV} {M : zMem} {post' : Int → zMem → Prop} {a1 a2 : zAV} (hd : decode code pc = .ok (.invokevirtual 47, 3)) (hdd : d' ≤ 7) (hst : zcat st ≤ 8) (hSp : zSp zd_Model_breaks d' [zr 9, a1, a2] M post') (kk : ∀ r M', post' r M' → lV L xs (pc + 3) ls (zi r :: st) M') : lV L xs pc ls (a2 :: a1 :: zr 9 :: st) M := l_callV (μ' := zd_Model_breaks) (n := 2) (av := [a1, a2]) (q := 9) (ci := 8) (C := RX9) (Tt := TX9) (N := 38) rfl (by decide) rfl lm_47 zk_im_Model_breaks zk_sel_Model_breaks zk_ini_Model zk_code_Model_breaks (by decide +kernel) rfl (by decide) ⟨_, rfl⟩ hd hdd hst hSp kk
theorem lm_51 : Cond.methodLink R_law 51 yX9_plain ∈ zAll := zAll_of 1053 (by decide +kernel) (by decide +kernel)
theorem lc_51 {L : Nat} {xs : Nat → Int32} {d' pc : Nat} {ls : List (Option zAV)} {st : List zAV} {M : zMem} {post' : Int → zMem → Prop} {a1 a2 : zAV} (hd : decode code pc = .ok (.invokevirtual 51, 3)) (hdd : d' ≤ 7) (hst : zcat st ≤ 8) (hSp : zSp zd_Model_plain d' [zr 9, a1, a2] M post') (kk : ∀ r M', post' r M' → lV L xs (pc + 3) ls (zi r :: st) M') : lV L xs pc ls (a2 :: a1 :: zr 9 :: st) M := l_callV (μ' := zd_Model_plain) (n := 2) (av := [a1, a2]) (q := 9) (ci := 8) (C := RX9) (Tt := TX9) (N := 38) rfl (by decide) rfl lm_51 zk_im_Model_plain zk_sel_Model_plain zk_ini_Model zk_code_Model_plain (by decide +kernel) rfl (by decide) ⟨_, rfl⟩ hd hdd hst hSp kk
theorem lm_56 : Cond.methodLink R_law 56 yX9_list ∈ zAll := zAll_of 1057 (by decide +kernel) (by decide +kernel)
theorem lc_56 {L : Nat} {xs : Nat → Int32} {d' pc : Nat} {ls : List (Option zAV)} {st : List zAV} {M : zMem} {post' : Int → zMem → Prop} {a1 : zAV} (hd : decode code pc = .ok (.invokevirtual 56, 3)) (hdd : d' ≤ 7) (hst : zcat st ≤ 8) (hSp : zSp zd_Model_list d' [zr 9, a1] M post') (kk : ∀ r M', post' r M' → lV L xs (pc + 3) ls (zi r :: st) M') : lV L xs pc ls (a1 :: zr 9 :: st) M := l_callV (μ' := zd_Model_list) (n := 1) (av := [a1]) (q := 9) (ci := 8) (C := RX9) (Tt := TX9) (N := 38) rfl (by decide) rfl lm_56 zk_im_Model_list zk_sel_Model_list zk_ini_Model zk_code_Model_list (by decide +kernel) rfl (by decide) ⟨_, rfl⟩ hd hdd hst hSp kk
theorem lm_60 : Cond.methodLink R_law 60 yX9_world ∈ zAll := zAll_of 1069 (by decide +kernel) (by decide +kernel)
theorem lc_60 {L : Nat} {xs : Nat → Int32} {d' pc : Nat} {ls : List (Option zAV)} {st : List zAV} {M : zMem} {post' : Int → zMem → Prop} {a1 a2 : zAV} (hd : decode code pc = .ok (.invokevirtual 60, 3)) (hdd : d' ≤ 7) (hst : zcat st ≤ 8) (hSp : zSp zd_Model_world d' [zr 9, a1, a2] M post') (kk : ∀ r M', post' r M' → lV L xs (pc + 3) ls (zi r :: st) M') : lV L xs pc ls (a2 :: a1 :: zr 9 :: st) M := l_callV (μ' := zd_Model_world) (n := 2) (av := [a1, a2]) (q := 9) (ci := 8) (C := RX9) (Tt := TX9) (N := 38) rfl (by decide) rfl lm_60 zk_im_Model_world zk_sel_Model_world zk_ini_Model zk_code_Model_world (by decide +kernel) rfl (by decide) ⟨_, rfl⟩ hd hdd hst hSp kk
theorem lm_65 : Cond.methodLink R_law 65 yX9_make ∈ zAll := zAll_of 1073 (by decide +kernel) (by decide +kernel)
theorem lc_65 {L : Nat} {xs : Nat → Int32} {d' pc : Nat} {ls : List (Option zAV)} {st : List zAV} {M : zMem} {post' : Int → zMem → Prop} {a1 a2 a3 : zAV} (hd : decode code pc = .ok (.invokevirtual 65, 3)) (hdd : d' ≤ 7) (hst : zcat st ≤ 8) (hSp : zSp zd_Model_make d' [zr 9, a1, a2, a3] M post') (kk : ∀ r M', post' r M' → lV L xs (pc + 3) ls (zi r :: st) M') : lV L xs pc ls (a3 :: a2 :: a1 :: zr 9 :: st) M := l_callV (μ' := zd_Model_make) (n := 3) (av := [a1, a2, a3]) (q := 9) (ci := 8) (C := RX9) (Tt := TX9) (N := 38) rfl (by decide) rfl lm_65 zk_im_Model_make zk_sel_Model_make zk_ini_Model zk_code_Model_make (by decide +kernel) rfl (by decide) ⟨_, rfl⟩ hd hdd hst hSp kk
theorem lm_70 : Cond.methodLink R_law 70 yX9_yes ∈ zAll := zAll_of 1086 (by decide +kernel) (by decide +kernel)
theorem lc_70 {L : Nat} {xs : Nat → Int32} {d' pc : Nat} {ls : List (Option zAV)} {st : List zAV} {M : zMem} {post' : Int → zMem → Prop} {a1 a2 a3 a4 : zAV} (hd : decode code pc = .ok (.invokevirtual 70, 3)) (hdd : d' ≤ 7) (hst : zcat st ≤ 8) (hSp : zSp zd_Model_yes d' [zr 9, a1, a2, a3, a4] M post') (kk : ∀ r M', post' r M' → lV L xs (pc + 3) ls (zi r :: st) M') : lV L xs pc ls (a4 :: a3 :: a2 :: a1 :: zr 9 :: st) M := l_callV (μ' := zd_Model_yes) (n := 4) (av := [a1, a2, a3, a4]) (q := 9) (ci := 8) (C := RX9) (Tt := TX9) (N := 38) rfl (by decide) rfl lm_70 zk_im_Model_yes zk_sel_Model_yes zk_ini_Model zk_code_Model_yes (by decide +kernel) rfl (by decide) ⟨_, rfl⟩ hd hdd hst hSp kk
theorem lm_74 : Cond.methodLink R_law 74 yX9_many ∈ zAll := zAll_of 1102 (by decide +kernel) (by decide +kernel)
theorem lc_74 {L : Nat} {xs : Nat → Int32} {d' pc : Nat} {ls : List (Option zAV)} {st : List zAV} {M : zMem} {post' : Int → zMem → Prop} {a1 : zAV} (hd : decode code pc = .ok (.invokevirtual 74, 3)) (hdd : d' ≤ 7) (hst : zcat st ≤ 8) (hSp : zSp zd_Model_many d' [zr 9, a1] M post') (kk : ∀ r M', post' r M' → lV L xs (pc + 3) ls (zi r :: st) M') : lV L xs pc ls (a1 :: zr 9 :: st) M := l_callV (μ' := zd_Model_many) (n := 1) (av := [a1]) (q := 9) (ci := 8) (C := RX9) (Tt := TX9) (N := 38) rfl (by decide) rfl lm_74 zk_im_Model_many zk_sel_Model_many zk_ini_Model zk_code_Model_many (by decide +kernel) rfl (by decide) ⟨_, rfl⟩ hd hdd hst hSp kk
theorem lm_78 : Cond.methodLink R_law 78 yX9_twin ∈ zAll := zAll_of 1110 (by decide +kernel) (by decide +kernel)
theorem lc_78 {L : Nat} {xs : Nat → Int32} {d' pc : Nat} {ls : List (Option zAV)} {st : List zAV} {M : zMem} {post' : Int → zMem → Prop} {a1 : zAV} (hd : decode code pc = .ok (.invokevirtual 78, 3)) (hdd : d' ≤ 7) (hst : zcat st ≤ 8) (hSp : zSp zd_Model_twin d' [zr 9, a1] M post') (kk : ∀ r M', post' r M' → lV L xs (pc + 3) ls (zi r :: st) M') : lV L xs pc ls (a1 :: zr 9 :: st) M := l_callV (μ' := zd_Model_twin) (n := 1) (av := [a1]) (q := 9) (ci := 8) (C := RX9) (Tt := TX9) (N := 38) rfl (by decide) rfl lm_78 zk_im_Model_twin zk_sel_Model_twin zk_ini_Model zk_code_Model_twin (by decide +kernel) rfl (by decide) ⟨_, rfl⟩ hd hdd hst hSp kk
theorem lm_82 : Cond.methodLink R_law 82 yX9_butFor ∈ zAll := zAll_of 1122 (by decide +kernel) (by decide +kernel)
theorem lc_82 {L : Nat} {xs : Nat → Int32} {d' pc : Nat} {ls : List (Option zAV)} {st : List zAV} {M : zMem} {post' : Int → zMem → Prop} {a1 a2 : zAV} (hd : decode code pc = .ok (.invokevirtual 82, 3)) (hdd : d' ≤ 7) (hst : zcat st ≤ 8) (hSp : zSp zd_Model_butFor d' [zr 9, a1, a2] M post') (kk : ∀ r M', post' r M' → lV L xs (pc + 3) ls (zi r :: st) M') : lV L xs pc ls (a2 :: a1 :: zr 9 :: st) M := l_callV (μ' := zd_Model_butFor) (n := 2) (av := [a1, a2]) (q := 9) (ci := 8) (C := RX9) (Tt := TX9) (N := 38) rfl (by decide) rfl lm_82 zk_im_Model_butFor zk_sel_Model_butFor zk_ini_Model zk_code_Model_butFor (by decide +kernel) rfl (by decide) ⟨_, rfl⟩ hd hdd hst hSp kk
theorem lm_86 : Cond.methodLink R_law 86 yX9_look ∈ zAll := zAll_of 1126 (by decide +kernel) (by decide +kernel)
theorem lc_86 {L : Nat} {xs : Nat → Int32} {d' pc : Nat} {ls : List (Option zAV)} {st : List zAV} {M : zMem} {post' : Int → zMem → Prop} {a1 a2 a3 : zAV} (hd : decode code pc = .ok (.invokevirtual 86, 3)) (hdd : d' ≤ 7) (hst : zcat st ≤ 8) (hSp : zSp zd_Model_look d' [zr 9, a1, a2, a3] M post') (kk : ∀ r M', post' r M' → lV L xs (pc + 3) ls (zi r :: st) M') : lV L xs pc ls (a3 :: a2 :: a1 :: zr 9 :: st) M := l_callV (μ' := zd_Model_look) (n := 3) (av := [a1, a2, a3]) (q := 9) (ci := 8) (C := RX9) (Tt := TX9) (N := 38) rfl (by decide) rfl lm_86 zk_im_Model_look zk_sel_Model_look zk_ini_Model zk_code_Model_look (by decide +kernel) rfl (by decide) ⟨_, rfl⟩ hd hdd hst hSp kk
theorem lm_90 : Cond.methodLink R_law 90 yX9_never ∈ zAll := zAll_of 1130 (by decide +kernel) (by decide +kernel)
theorem lc_90 {L : Nat} {xs : Nat → Int32} {d' pc : Nat} {ls : List (Option zAV)} {st : List zAV} {M : zMem} {post' : Int → zMem → Prop} {a1 a2 : zAV} (hd : decode code pc = .ok (.invokevirtual 90, 3)) (hdd : d' ≤ 7) (hst : zcat st ≤ 8) (hSp : zSp zd_Model_never d' [zr 9, a1, a2] M post') (kk : ∀ r M', post' r M' → lV L xs (pc + 3) ls (zi r :: st) M') : lV L xs pc ls (a2 :: a1 :: zr 9 :: st) M := l_callV (μ' := zd_Model_never) (n := 2) (av := [a1, a2]) (q := 9) (ci := 8) (C := RX9) (Tt := TX9) (N := 38) rfl (by decide) rfl lm_90 zk_im_Model_never zk_sel_Model_never zk_ini_Model zk_code_Model_never (by decide +kernel) rfl (by decide) ⟨_, rfl⟩ hd hdd hst hSp kk
theorem lm_94 : Cond.methodLink R_law 94 yX9_deny ∈ zAll := zAll_of 1134 (by decide +kernel) (by decide +kernel)
theorem lc_94 {L : Nat} {xs : Nat → Int32} {d' pc : Nat} {ls : List (Option zAV)} {st : List zAV} {M : zMem} {post' : Int → zMem → Prop} {a1 a2 : zAV} (hd : decode code pc = .ok (.invokevirtual 94, 3)) (hdd : d' ≤ 7) (hst : zcat st ≤ 8) (hSp : zSp zd_Model_deny d' [zr 9, a1, a2] M post') (kk : ∀ r M', post' r M' → lV L xs (pc + 3) ls (zi r :: st) M') : lV L xs pc ls (a2 :: a1 :: zr 9 :: st) M := l_callV (μ' := zd_Model_deny) (n := 2) (av := [a1, a2]) (q := 9) (ci := 8) (C := RX9) (Tt := TX9) (N := 38) rfl (by decide) rfl lm_94 zk_im_Model_deny zk_sel_Model_deny zk_ini_Model zk_code_Model_deny (by decide +kernel) rfl (by decide) ⟨_, rfl⟩ hd hdd hst hSp kk
theorem lm_98 : Cond.methodLink R_law 98 yX9_weigh ∈ zAll := zAll_of 1138 (by decide +kernel) (by decide +kernel)
theorem lc_98 {L : Nat} {xs : Nat → Int32} {d' pc : Nat} {ls : List (Option zAV)} {st : List zAV} {M : zMem} {post' : Int → zMem → Prop} {a1 a2 : zAV} (hd : decode code pc = .ok (.invokevirtual 98, 3)) (hdd : d' ≤ 7) (hst : zcat st ≤ 8) (hSp : zSp zd_Model_weigh d' [zr 9, a1, a2] M post') (kk : ∀ r M', post' r M' → lV L xs (pc + 3) ls (zi r :: st) M') : lV L xs pc ls (a2 :: a1 :: zr 9 :: st) M := l_callV (μ' := zd_Model_weigh) (n := 2) (av := [a1, a2]) (q := 9) (ci := 8) (C := RX9) (Tt := TX9) (N := 38) rfl (by decide) rfl lm_98 zk_im_Model_weigh zk_sel_Model_weigh zk_ini_Model zk_code_Model_weigh (by decide +kernel) rfl (by decide) ⟨_, rfl⟩ hd hdd hst hSp kk
theorem lm_102 : Cond.methodLink R_law 102 yX9_wake ∈ zAll := zAll_of 1144 (by decide +kernel) (by decide +kernel)
theorem lc_102 {L : Nat} {xs : Nat → Int32} {d' pc : Nat} {ls : List (Option zAV)} {st : List zAV} {M : zMem} {post' : Int → zMem → Prop} {a1 a2 : zAV} (hd : decode code pc = .ok (.invokevirtual 102, 3)) (hdd : d' ≤ 7) (hst : zcat st ≤ 8) (hSp : zSp zd_Model_wake d' [zr 9, a1, a2] M post') (kk : ∀ r M', post' r M' → lV L xs (pc + 3) ls (zi r :: st) M') : lV L xs pc ls (a2 :: a1 :: zr 9 :: st) M := l_callV (μ' := zd_Model_wake) (n := 2) (av := [a1, a2]) (q := 9) (ci := 8) (C := RX9) (Tt := TX9) (N := 38) rfl (by decide) rfl lm_102 zk_im_Model_wake zk_sel_Model_wake zk_ini_Model zk_code_Model_wake (by decide +kernel) rfl (by decide) ⟨_, rfl⟩ hd hdd hst hSp kk
theorem lm_106 : Cond.methodLink R_law 106 yX9_worth ∈ zAll := zAll_of 1148 (by decide +kernel) (by decide +kernel)
theorem lc_106 {L : Nat} {xs : Nat → Int32} {d' pc : Nat} {ls : List (Option zAV)} {st : List zAV} {M : zMem} {post' : Int → zMem → Prop} {a1 a2 : zAV} (hd : decode code pc = .ok (.invokevirtual 106, 3)) (hdd : d' ≤ 7) (hst : zcat st ≤ 8) (hSp : zSp zd_Model_worth d' [zr 9, a1, a2] M post') (kk : ∀ r M', post' r M' → lV L xs (pc + 3) ls (zi r :: st) M') : lV L xs pc ls (a2 :: a1 :: zr 9 :: st) M := l_callV (μ' := zd_Model_worth) (n := 2) (av := [a1, a2]) (q := 9) (ci := 8) (C := RX9) (Tt := TX9) (N := 38) rfl (by decide) rfl lm_106 zk_im_Model_worth zk_sel_Model_worth zk_ini_Model zk_code_Model_worth (by decide +kernel) rfl (by decide) ⟨_, rfl⟩ hd hdd hst hSp kk
theorem lm_110 : Cond.methodLink R_law 110 yX9_best ∈ zAll := zAll_of 1168 (by decide +kernel) (by decide +kernel)
theorem lc_110 {L : Nat} {xs : Nat → Int32} {d' pc : Nat} {ls : List (Option zAV)} {st : List zAV} {M : zMem} {post' : Int → zMem → Prop} (hd : decode code pc = .ok (.invokevirtual 110, 3)) (hdd : d' ≤ 7) (hst : zcat st ≤ 8) (hSp : zSp zd_Model_best d' [zr 9] M post') (kk : ∀ r M', post' r M' → lV L xs (pc + 3) ls (zi r :: st) M') : lV L xs pc ls (zr 9 :: st) M := l_callV (μ' := zd_Model_best) (n := 0) (av := []) (q := 9) (ci := 8) (C := RX9) (Tt := TX9) (N := 38) rfl (by decide) rfl lm_110 zk_im_Model_best zk_sel_Model_best zk_ini_Model zk_code_Model_best (by decide +kernel) rfl (by decide) ⟨_, rfl⟩ hd hdd hst hSp kk
theorem lm_114 : Cond.methodLink R_law 114 yX9_next ∈ zAll := zAll_of 1172 (by decide +kernel) (by decide +kernel)
theorem lc_114 {L : Nat} {xs : Nat → Int32} {d' pc : Nat} {ls : List (Option zAV)} {st : List zAV} {M : zMem} {post' : Int → zMem → Prop} (hd : decode code pc = .ok (.invokevirtual 114, 3)) (hdd : d' ≤ 7) (hst : zcat st ≤ 8) (hSp : zSp zd_Model_next d' [zr 9] M post') (kk : ∀ r M', post' r M' → lV L xs (pc + 3) ls (zi r :: st) M') : lV L xs pc ls (zr 9 :: st) M := l_callV (μ' := zd_Model_next) (n := 0) (av := []) (q := 9) (ci := 8) (C := RX9) (Tt := TX9) (N := 38) rfl (by decide) rfl lm_114 zk_im_Model_next zk_sel_Model_next zk_ini_Model zk_code_Model_next (by decide +kernel) rfl (by decide) ⟨_, rfl⟩ hd hdd hst hSp kk
theorem lm_118 : Cond.methodLink R_law 118 yX9_makeNext ∈ zAll := zAll_of 1184 (by decide +kernel) (by decide +kernel)
theorem lc_118 {L : Nat} {xs : Nat → Int32} {d' pc : Nat} {ls : List (Option zAV)} {st : List zAV} {M : zMem} {post' : Int → zMem → Prop} (hd : decode code pc = .ok (.invokevirtual 118, 3)) (hdd : d' ≤ 7) (hst : zcat st ≤ 8) (hSp : zSp zd_Model_makeNext d' [zr 9] M post') (kk : ∀ r M', post' r M' → lV L xs (pc + 3) ls (zi r :: st) M') : lV L xs pc ls (zr 9 :: st) M := l_callV (μ' := zd_Model_makeNext) (n := 0) (av := []) (q := 9) (ci := 8) (C := RX9) (Tt := TX9) (N := 38) rfl (by decide) rfl lm_118 zk_im_Model_makeNext zk_sel_Model_makeNext zk_ini_Model zk_code_Model_makeNext (by decide +kernel) rfl (by decide) ⟨_, rfl⟩ hd hdd hst hSp kk
theorem lm_122 : Cond.methodLink R_law 122 yX9_needed ∈ zAll := zAll_of 1189 (by decide +kernel) (by decide +kernel)
theorem lc_122 {L : Nat} {xs : Nat → Int32} {d' pc : Nat} {ls : List (Option zAV)} {st : List zAV} {M : zMem} {post' : Int → zMem → Prop} {a1 : zAV} (hd : decode code pc = .ok (.invokevirtual 122, 3)) (hdd : d' ≤ 7) (hst : zcat st ≤ 8) (hSp : zSp zd_Model_needed d' [zr 9, a1] M post') (kk : ∀ r M', post' r M' → lV L xs (pc + 3) ls (zi r :: st) M') : lV L xs pc ls (a1 :: zr 9 :: st) M := l_callV (μ' := zd_Model_needed) (n := 1) (av := [a1]) (q := 9) (ci := 8) (C := RX9) (Tt := TX9) (N := 38) rfl (by decide) rfl lm_122 zk_im_Model_needed zk_sel_Model_needed zk_ini_Model zk_code_Model_needed (by decide +kernel) rfl (by decide) ⟨_, rfl⟩ hd hdd hst hSp kk
theorem lm_126 : Cond.methodLink R_law 126 yX9_least ∈ zAll := zAll_of 1197 (by decide +kernel) (by decide +kernel)
theorem lc_126 {L : Nat} {xs : Nat → Int32} {d' pc : Nat} {ls : List (Option zAV)} {st : List zAV} {M : zMem} {post' : Int → zMem → Prop} (hd : decode code pc = .ok (.invokevirtual 126, 3)) (hdd : d' ≤ 7) (hst : zcat st ≤ 8) (hSp : zSp zd_Model_least d' [zr 9] M post') (kk : ∀ r M', post' r M' → lV L xs (pc + 3) ls (zi r :: st) M') : lV L xs pc ls (zr 9 :: st) M := l_callV (μ' := zd_Model_least) (n := 0) (av := []) (q := 9) (ci := 8) (C := RX9) (Tt := TX9) (N := 38) rfl (by decide) rfl lm_126 zk_im_Model_least zk_sel_Model_least zk_ini_Model zk_code_Model_least (by decide +kernel) rfl (by decide) ⟨_, rfl⟩ hd hdd hst hSp kk
theorem lm_130 : Cond.methodLink R_law 130 yX9_even ∈ zAll := zAll_of 1201 (by decide +kernel) (by decide +kernel)
theorem lc_130 {L : Nat} {xs : Nat → Int32} {d' pc : Nat} {ls : List (Option zAV)} {st : List zAV} {M : zMem} {post' : Int → zMem → Prop} (hd : decode code pc = .ok (.invokevirtual 130, 3)) (hdd : d' ≤ 7) (hst : zcat st ≤ 8) (hSp : zSp zd_Model_even d' [zr 9] M post') (kk : ∀ r M', post' r M' → lV L xs (pc + 3) ls (zi r :: st) M') : lV L xs pc ls (zr 9 :: st) M := l_callV (μ' := zd_Model_even) (n := 0) (av := []) (q := 9) (ci := 8) (C := RX9) (Tt := TX9) (N := 38) rfl (by decide) rfl lm_130 zk_im_Model_even zk_sel_Model_even zk_ini_Model zk_code_Model_even (by decide +kernel) rfl (by decide) ⟨_, rfl⟩ hd hdd hst hSp kk
theorem lm_134 : Cond.methodLink R_law 134 yX9_keep ∈ zAll := zAll_of 1209 (by decide +kernel) (by decide +kernel)
theorem lc_134 {L : Nat} {xs : Nat → Int32} {d' pc : Nat} {ls : List (Option zAV)} {st : List zAV} {M : zMem} {post' : Int → zMem → Prop} {a1 : zAV} (hd : decode code pc = .ok (.invokevirtual 134, 3)) (hdd : d' ≤ 7) (hst : zcat st ≤ 8) (hSp : zSp zd_Model_keep d' [zr 9, a1] M post') (kk : ∀ r M', post' r M' → lV L xs (pc + 3) ls (zi r :: st) M') : lV L xs pc ls (a1 :: zr 9 :: st) M := l_callV (μ' := zd_Model_keep) (n := 1) (av := [a1]) (q := 9) (ci := 8) (C := RX9) (Tt := TX9) (N := 38) rfl (by decide) rfl lm_134 zk_im_Model_keep zk_sel_Model_keep zk_ini_Model zk_code_Model_keep (by decide +kernel) rfl (by decide) ⟨_, rfl⟩ hd hdd hst hSp kk
theorem lm_138 : Cond.methodLink R_law 138 yX9_same ∈ zAll := zAll_of 1213 (by decide +kernel) (by decide +kernel)
theorem lc_138 {L : Nat} {xs : Nat → Int32} {d' pc : Nat} {ls : List (Option zAV)} {st : List zAV} {M : zMem} {post' : Int → zMem → Prop} {a1 : zAV} (hd : decode code pc = .ok (.invokevirtual 138, 3)) (hdd : d' ≤ 7) (hst : zcat st ≤ 8) (hSp : zSp zd_Model_same d' [zr 9, a1] M post') (kk : ∀ r M', post' r M' → lV L xs (pc + 3) ls (zi r :: st) M') : lV L xs pc ls (a1 :: zr 9 :: st) M := l_callV (μ' := zd_Model_same) (n := 1) (av := [a1]) (q := 9) (ci := 8) (C := RX9) (Tt := TX9) (N := 38) rfl (by decide) rfl lm_138 zk_im_Model_same zk_sel_Model_same zk_ini_Model zk_code_Model_same (by decide +kernel) rfl (by decide) ⟨_, rfl⟩ hd hdd hst hSp kk
theorem lm_142 : Cond.methodLink R_law 142 yX9_shown ∈ zAll := zAll_of 1217 (by decide +kernel) (by decide +kernel)
theorem lc_142 {L : Nat} {xs : Nat → Int32} {d' pc : Nat} {ls : List (Option zAV)} {st : List zAV} {M : zMem} {post' : Int → zMem → Prop} {a1 a2 : zAV} (hd : decode code pc = .ok (.invokevirtual 142, 3)) (hdd : d' ≤ 7) (hst : zcat st ≤ 8) (hSp : zSp zd_Model_shown d' [zr 9, a1, a2] M post') (kk : ∀ r M', post' r M' → lV L xs (pc + 3) ls (zi r :: st) M') : lV L xs pc ls (a2 :: a1 :: zr 9 :: st) M := l_callV (μ' := zd_Model_shown) (n := 2) (av := [a1, a2]) (q := 9) (ci := 8) (C := RX9) (Tt := TX9) (N := 38) rfl (by decide) rfl lm_142 zk_im_Model_shown zk_sel_Model_shown zk_ini_Model zk_code_Model_shown (by decide +kernel) rfl (by decide) ⟨_, rfl⟩ hd hdd hst hSp kk
theorem lm_146 : Cond.methodLink R_law 146 yX9_groups ∈ zAll := zAll_of 1241 (by decide +kernel) (by decide +kernel)
theorem lc_146 {L : Nat} {xs : Nat → Int32} {d' pc : Nat} {ls : List (Option zAV)} {st : List zAV} {M : zMem} {post' : Int → zMem → Prop} (hd : decode code pc = .ok (.invokevirtual 146, 3)) (hdd : d' ≤ 7) (hst : zcat st ≤ 8) (hSp : zSp zd_Model_groups d' [zr 9] M post') (kk : ∀ r M', post' r M' → lV L xs (pc + 3) ls (zi r :: st) M') : lV L xs pc ls (zr 9 :: st) M := l_callV (μ' := zd_Model_groups) (n := 0) (av := []) (q := 9) (ci := 8) (C := RX9) (Tt := TX9) (N := 38) rfl (by decide) rfl lm_146 zk_im_Model_groups zk_sel_Model_groups zk_ini_Model zk_code_Model_groups (by decide +kernel) rfl (by decide) ⟨_, rfl⟩ hd hdd hst hSp kk
theorem lm_150 : Cond.methodLink R_law 150 yX9_first ∈ zAll := zAll_of 1245 (by decide +kernel) (by decide +kernel)
theorem lc_150 {L : Nat} {xs : Nat → Int32} {d' pc : Nat} {ls : List (Option zAV)} {st : List zAV} {M : zMem} {post' : Int → zMem → Prop} {a1 : zAV} (hd : decode code pc = .ok (.invokevirtual 150, 3)) (hdd : d' ≤ 7) (hst : zcat st ≤ 8) (hSp : zSp zd_Model_first d' [zr 9, a1] M post') (kk : ∀ r M', post' r M' → lV L xs (pc + 3) ls (zi r :: st) M') : lV L xs pc ls (a1 :: zr 9 :: st) M := l_callV (μ' := zd_Model_first) (n := 1) (av := [a1]) (q := 9) (ci := 8) (C := RX9) (Tt := TX9) (N := 38) rfl (by decide) rfl lm_150 zk_im_Model_first zk_sel_Model_first zk_ini_Model zk_code_Model_first (by decide +kernel) rfl (by decide) ⟨_, rfl⟩ hd hdd hst hSp kk
theorem lm_154 : Cond.methodLink R_law 154 yX9_count ∈ zAll := zAll_of 1249 (by decide +kernel) (by decide +kernel)
theorem lc_154 {L : Nat} {xs : Nat → Int32} {d' pc : Nat} {ls : List (Option zAV)} {st : List zAV} {M : zMem} {post' : Int → zMem → Prop} {a1 : zAV} (hd : decode code pc = .ok (.invokevirtual 154, 3)) (hdd : d' ≤ 7) (hst : zcat st ≤ 8) (hSp : zSp zd_Model_count d' [zr 9, a1] M post') (kk : ∀ r M', post' r M' → lV L xs (pc + 3) ls (zi r :: st) M') : lV L xs pc ls (a1 :: zr 9 :: st) M := l_callV (μ' := zd_Model_count) (n := 1) (av := [a1]) (q := 9) (ci := 8) (C := RX9) (Tt := TX9) (N := 38) rfl (by decide) rfl lm_154 zk_im_Model_count zk_sel_Model_count zk_ini_Model zk_code_Model_count (by decide +kernel) rfl (by decide) ⟨_, rfl⟩ hd hdd hst hSp kk
theorem abR.frC {M M' : zMem} {B : Nat → Nat → Nat} (h : abR M B) (hf : zfr zCL M M') : abR M' B := by
  have g9 : M' 9 = M 9 := hf 9 (by decide)
  exact ⟨h.1.fr hf (by decide) (by rw [g9]) (by rw [g9]) (by rw [g9]), h.2.fr hf (by decide) (by rw [g9]) (by rw [g9]) (by rw [g9])⟩
theorem abC.frR {M M' : zMem} {B : Nat → Nat → Nat} (h : abC M B) (hf : zfr zRL M M') : abC M' B := ⟨h.1.fr hf (by decide), h.2.1.fr hf (by decide), h.2.2.fr hf (by decide)⟩
theorem law_c0 {L : Nat} {xs : Nat → Int32} {i : Nat} {M : zMem} {B : Nat → Nat → Nat} (hL : L ≤ 2560) (hi : i + 5 ≤ L) (hC : abC M B) (hR : abR M B) (k : ∀ (M : zMem) (B : Nat → Nat → Nat), abC M B → abR M B → lV L xs 1174 [some (zr 75), some (zr 0), some (zr 9), some (zi (i : Int))] [] M) : lV L xs 184 [some (zr 75), some (zr 0), some (zr 9), some (zi (i : Int))] [] M := by
  refine l_aload rfl dL_law_184 rfl ?_
  refine l_aload rfl dL_law_185 rfl ?_
  refine l_iload rfl dL_law_186 rfl ?_
  refine l_iconst dL_law_187 ?_
  refine l_iadd dL_law_188 ?_
  refine l_sald (i + 1) (by omega) (by omega) hL dL_law_189 ?_
  refine l_aload rfl dL_law_190 rfl ?_
  refine l_iload rfl dL_law_191 rfl ?_
  refine l_iconst dL_law_192 ?_
  refine l_iadd dL_law_193 ?_
  refine l_sald (i + 2) (by omega) (by omega) hL dL_law_194 ?_
  refine lc_13 dL_law_195 (by decide) (Nat.le_of_ble_eq_true rfl) (sp_S_put M B ((xs (i + 1)).toInt) ((xs (i + 2)).toInt) (zrng_toInt _) (zrng_toInt _) hC) (fun r1 M1 q1 => ?_)
  obtain ⟨e1, f1, c1⟩ := q1
  subst e1
  have hR1 := hR.frC f1
  refine l_aload rfl dL_law_198 rfl ?_
  refine l_aload rfl dL_law_199 rfl ?_
  refine l_iload rfl dL_law_200 rfl ?_
  refine l_iconst dL_law_201 ?_
  refine l_iadd dL_law_202 ?_
  refine l_sald (i + 1) (by omega) (by omega) hL dL_law_203 ?_
  refine l_aload rfl dL_law_204 rfl ?_
  refine l_iload rfl dL_law_205 rfl ?_
  refine l_iconst dL_law_206 ?_
  refine l_iadd dL_law_207 ?_
  refine l_sald (i + 2) (by omega) (by omega) hL dL_law_208 ?_
  refine lc_17 dL_law_209 (by decide) (Nat.le_of_ble_eq_true rfl) (sp_Model_put M1 B ((xs (i + 1)).toInt) ((xs (i + 2)).toInt) (zrng_toInt _) (zrng_toInt _) hR1) (fun r2 M2 q2 => ?_)
  obtain ⟨e2, f2, c2⟩ := q2
  subst e2
  refine l_same (tgt := 1174) dL_law_212 (by decide) ?_
  exact k M2 _ (c1.frR f2) c2
theorem law_c1 {L : Nat} {xs : Nat → Int32} {i : Nat} {M : zMem} {B : Nat → Nat → Nat} (hL : L ≤ 2560) (hi : i + 5 ≤ L) (hC : abC M B) (hR : abR M B) (k : ∀ (M : zMem) (B : Nat → Nat → Nat), abC M B → abR M B → lV L xs 1174 [some (zr 75), some (zr 0), some (zr 9), some (zi (i : Int))] [] M) : lV L xs 217 [some (zr 75), some (zr 0), some (zr 9), some (zi (i : Int))] [] M := by
  refine l_aload rfl dL_law_217 rfl ?_
  refine l_aload rfl dL_law_218 rfl ?_
  refine l_iload rfl dL_law_219 rfl ?_
  refine l_iconst dL_law_220 ?_
  refine l_iadd dL_law_221 ?_
  refine l_sald (i + 1) (by omega) (by omega) hL dL_law_222 ?_
  refine l_aload rfl dL_law_223 rfl ?_
  refine l_iload rfl dL_law_224 rfl ?_
  refine l_iconst dL_law_225 ?_
  refine l_iadd dL_law_226 ?_
  refine l_sald (i + 2) (by omega) (by omega) hL dL_law_227 ?_
  refine l_ifeq (tgt := 235) (zrng_toInt _) dL_law_228 (by decide) (fun z228 => ?_) (fun z228 => ?_)
  · refine l_iconst dL_law_235 ?_
    refine lc_18 dL_law_236 (by decide) (Nat.le_of_ble_eq_true rfl) (sp_S_part M B ((xs (i + 1)).toInt) false (zrng_toInt _) hC) (fun r1 M1 q1 => ?_)
    obtain ⟨e1, f1, c1⟩ := q1
    subst e1
    have hR1 := hR.frC f1
    refine l_aload rfl dL_law_239 rfl ?_
    refine l_aload rfl dL_law_240 rfl ?_
    refine l_iload rfl dL_law_241 rfl ?_
    refine l_iconst dL_law_242 ?_
    refine l_iadd dL_law_243 ?_
    refine l_sald (i + 1) (by omega) (by omega) hL dL_law_244 ?_
    refine l_aload rfl dL_law_245 rfl ?_
    refine l_iload rfl dL_law_246 rfl ?_
    refine l_iconst dL_law_247 ?_
    refine l_iadd dL_law_248 ?_
    refine l_sald (i + 2) (by omega) (by omega) hL dL_law_249 ?_
    refine l_ifeq (tgt := 257) (zrng_toInt _) dL_law_250 (by decide) (fun z250 => ?_) (fun z250 => ?_)
    · refine l_iconst dL_law_257 ?_
      refine lc_22 dL_law_258 (by decide) (Nat.le_of_ble_eq_true rfl) (sp_Model_part M1 B ((xs (i + 1)).toInt) false (zrng_toInt _) hR1) (fun r2 M2 q2 => ?_)
      obtain ⟨e2, f2, c2⟩ := q2
      subst e2
      refine l_same (tgt := 1174) dL_law_261 (by decide) ?_
      exact k M2 _ (c1.frR f2) c2
    · exact absurd z228 z250
  · refine l_iconst dL_law_231 ?_
    refine l_goto (tgt := 236) dL_law_232 (by decide) ?_
    refine lc_18 dL_law_236 (by decide) (Nat.le_of_ble_eq_true rfl) (sp_S_part M B ((xs (i + 1)).toInt) true (zrng_toInt _) hC) (fun r1 M1 q1 => ?_)
    obtain ⟨e1, f1, c1⟩ := q1
    subst e1
    have hR1 := hR.frC f1
    refine l_aload rfl dL_law_239 rfl ?_
    refine l_aload rfl dL_law_240 rfl ?_
    refine l_iload rfl dL_law_241 rfl ?_
    refine l_iconst dL_law_242 ?_
    refine l_iadd dL_law_243 ?_
    refine l_sald (i + 1) (by omega) (by omega) hL dL_law_244 ?_
    refine l_aload rfl dL_law_245 rfl ?_
    refine l_iload rfl dL_law_246 rfl ?_
    refine l_iconst dL_law_247 ?_
    refine l_iadd dL_law_248 ?_
    refine l_sald (i + 2) (by omega) (by omega) hL dL_law_249 ?_
    refine l_ifeq (tgt := 257) (zrng_toInt _) dL_law_250 (by decide) (fun z250 => ?_) (fun z250 => ?_)
    · exact absurd z250 z228
    · refine l_iconst dL_law_253 ?_
      refine l_goto (tgt := 258) dL_law_254 (by decide) ?_
      refine lc_22 dL_law_258 (by decide) (Nat.le_of_ble_eq_true rfl) (sp_Model_part M1 B ((xs (i + 1)).toInt) true (zrng_toInt _) hR1) (fun r2 M2 q2 => ?_)
      obtain ⟨e2, f2, c2⟩ := q2
      subst e2
      refine l_same (tgt := 1174) dL_law_261 (by decide) ?_
      exact k M2 _ (c1.frR f2) c2
theorem law_c2 {L : Nat} {xs : Nat → Int32} {i : Nat} {M : zMem} {B : Nat → Nat → Nat} (hL : L ≤ 2560) (hi : i + 5 ≤ L) (hC : abC M B) (hR : abR M B) (k : ∀ (M : zMem) (B : Nat → Nat → Nat), abC M B → abR M B → lV L xs 1174 [some (zr 75), some (zr 0), some (zr 9), some (zi (i : Int))] [] M) : lV L xs 266 [some (zr 75), some (zr 0), some (zr 9), some (zi (i : Int))] [] M := by
  refine l_aload rfl dL_law_266 rfl ?_
  refine l_aload rfl dL_law_267 rfl ?_
  refine l_iload rfl dL_law_268 rfl ?_
  refine l_iconst dL_law_269 ?_
  refine l_iadd dL_law_270 ?_
  refine l_sald (i + 1) (by omega) (by omega) hL dL_law_271 ?_
  refine l_aload rfl dL_law_272 rfl ?_
  refine l_iload rfl dL_law_273 rfl ?_
  refine l_iconst dL_law_274 ?_
  refine l_iadd dL_law_275 ?_
  refine l_sald (i + 2) (by omega) (by omega) hL dL_law_276 ?_
  refine lc_23 dL_law_277 (by decide) (Nat.le_of_ble_eq_true rfl) (sp_S_law M B ((xs (i + 1)).toInt) ((xs (i + 2)).toInt) (zrng_toInt _) (zrng_toInt _) hC) (fun r1 M1 q1 => ?_)
  obtain ⟨e1, f1, c1⟩ := q1
  subst e1
  have hR1 := hR.frC f1
  refine l_aload rfl dL_law_280 rfl ?_
  refine l_aload rfl dL_law_281 rfl ?_
  refine l_iload rfl dL_law_282 rfl ?_
  refine l_iconst dL_law_283 ?_
  refine l_iadd dL_law_284 ?_
  refine l_sald (i + 1) (by omega) (by omega) hL dL_law_285 ?_
  refine l_aload rfl dL_law_286 rfl ?_
  refine l_iload rfl dL_law_287 rfl ?_
  refine l_iconst dL_law_288 ?_
  refine l_iadd dL_law_289 ?_
  refine l_sald (i + 2) (by omega) (by omega) hL dL_law_290 ?_
  refine lc_26 dL_law_291 (by decide) (Nat.le_of_ble_eq_true rfl) (sp_Model_law M1 B ((xs (i + 1)).toInt) ((xs (i + 2)).toInt) (zrng_toInt _) (zrng_toInt _) hR1) (fun r2 M2 q2 => ?_)
  obtain ⟨e2, f2, c2⟩ := q2
  subst e2
  refine l_same (tgt := 1174) dL_law_294 (by decide) ?_
  exact k M2 _ (c1.frR f2) c2
theorem law_c3 {L : Nat} {xs : Nat → Int32} {i : Nat} {M : zMem} {B : Nat → Nat → Nat} (hL : L ≤ 2560) (hi : i + 5 ≤ L) (hC : abC M B) (hR : abR M B) (k : ∀ (M : zMem) (B : Nat → Nat → Nat), abC M B → abR M B → lV L xs 1174 [some (zr 75), some (zr 0), some (zr 9), some (zi (i : Int))] [] M) : lV L xs 299 [some (zr 75), some (zr 0), some (zr 9), some (zi (i : Int))] [] M := by
  refine l_aload rfl dL_law_299 rfl ?_
  refine lc_27 dL_law_300 (by decide) (Nat.le_of_ble_eq_true rfl) (sp_S_unlaw M B   hC) (fun r1 M1 q1 => ?_)
  obtain ⟨e1, f1, c1⟩ := q1
  subst e1
  have hR1 := hR.frC f1
  refine l_aload rfl dL_law_303 rfl ?_
  refine lc_31 dL_law_304 (by decide) (Nat.le_of_ble_eq_true rfl) (sp_Model_unlaw M1 B   hR1) (fun r2 M2 q2 => ?_)
  obtain ⟨e2, f2, c2⟩ := q2
  subst e2
  refine l_same (tgt := 1174) dL_law_307 (by decide) ?_
  exact k M2 _ (c1.frR f2) c2
theorem law_c4 {L : Nat} {xs : Nat → Int32} {i : Nat} {M : zMem} {B : Nat → Nat → Nat} (hL : L ≤ 2560) (hi : i + 5 ≤ L) (hC : abC M B) (hR : abR M B) (k : ∀ (M : zMem) (B : Nat → Nat → Nat), abC M B → abR M B → lV L xs 1174 [some (zr 75), some (zr 0), some (zr 9), some (zi (i : Int))] [] M) : lV L xs 312 [some (zr 75), some (zr 0), some (zr 9), some (zi (i : Int))] [] M := by
  refine l_aload rfl dL_law_312 rfl ?_
  refine l_aload rfl dL_law_313 rfl ?_
  refine l_iload rfl dL_law_314 rfl ?_
  refine l_iconst dL_law_315 ?_
  refine l_iadd dL_law_316 ?_
  refine l_sald (i + 1) (by omega) (by omega) hL dL_law_317 ?_
  refine l_aload rfl dL_law_318 rfl ?_
  refine l_iload rfl dL_law_319 rfl ?_
  refine l_iconst dL_law_320 ?_
  refine l_iadd dL_law_321 ?_
  refine l_sald (i + 2) (by omega) (by omega) hL dL_law_322 ?_
  refine l_ifeq (tgt := 330) (zrng_toInt _) dL_law_323 (by decide) (fun z323 => ?_) (fun z323 => ?_)
  · refine l_iconst dL_law_330 ?_
    refine lc_32 dL_law_331 (by decide) (Nat.le_of_ble_eq_true rfl) (sp_S_worlds M B ((xs (i + 1)).toInt) false (zrng_toInt _) hC) (fun r1 M1 q1 => ?_)
    obtain ⟨e1, f1, c1⟩ := q1
    subst e1
    have hR1 := hR.frC f1
    refine l_aload rfl dL_law_334 rfl ?_
    refine l_aload rfl dL_law_335 rfl ?_
    refine l_iload rfl dL_law_336 rfl ?_
    refine l_iconst dL_law_337 ?_
    refine l_iadd dL_law_338 ?_
    refine l_sald (i + 1) (by omega) (by omega) hL dL_law_339 ?_
    refine l_aload rfl dL_law_340 rfl ?_
    refine l_iload rfl dL_law_341 rfl ?_
    refine l_iconst dL_law_342 ?_
    refine l_iadd dL_law_343 ?_
    refine l_sald (i + 2) (by omega) (by omega) hL dL_law_344 ?_
    refine l_ifeq (tgt := 352) (zrng_toInt _) dL_law_345 (by decide) (fun z345 => ?_) (fun z345 => ?_)
    · refine l_iconst dL_law_352 ?_
      refine lc_35 dL_law_353 (by decide) (Nat.le_of_ble_eq_true rfl) (sp_Model_worlds M1 B ((xs (i + 1)).toInt) false (zrng_toInt _) hR1) (fun r2 M2 q2 => ?_)
      obtain ⟨e2, f2, c2⟩ := q2
      subst e2
      refine l_same (tgt := 1174) dL_law_356 (by decide) ?_
      exact k M2 _ (c1.frR f2) c2
    · exact absurd z323 z345
  · refine l_iconst dL_law_326 ?_
    refine l_goto (tgt := 331) dL_law_327 (by decide) ?_
    refine lc_32 dL_law_331 (by decide) (Nat.le_of_ble_eq_true rfl) (sp_S_worlds M B ((xs (i + 1)).toInt) true (zrng_toInt _) hC) (fun r1 M1 q1 => ?_)
    obtain ⟨e1, f1, c1⟩ := q1
    subst e1
    have hR1 := hR.frC f1
    refine l_aload rfl dL_law_334 rfl ?_
    refine l_aload rfl dL_law_335 rfl ?_
    refine l_iload rfl dL_law_336 rfl ?_
    refine l_iconst dL_law_337 ?_
    refine l_iadd dL_law_338 ?_
    refine l_sald (i + 1) (by omega) (by omega) hL dL_law_339 ?_
    refine l_aload rfl dL_law_340 rfl ?_
    refine l_iload rfl dL_law_341 rfl ?_
    refine l_iconst dL_law_342 ?_
    refine l_iadd dL_law_343 ?_
    refine l_sald (i + 2) (by omega) (by omega) hL dL_law_344 ?_
    refine l_ifeq (tgt := 352) (zrng_toInt _) dL_law_345 (by decide) (fun z345 => ?_) (fun z345 => ?_)
    · exact absurd z345 z323
    · refine l_iconst dL_law_348 ?_
      refine l_goto (tgt := 353) dL_law_349 (by decide) ?_
      refine lc_35 dL_law_353 (by decide) (Nat.le_of_ble_eq_true rfl) (sp_Model_worlds M1 B ((xs (i + 1)).toInt) true (zrng_toInt _) hR1) (fun r2 M2 q2 => ?_)
      obtain ⟨e2, f2, c2⟩ := q2
      subst e2
      refine l_same (tgt := 1174) dL_law_356 (by decide) ?_
      exact k M2 _ (c1.frR f2) c2
theorem law_c5 {L : Nat} {xs : Nat → Int32} {i : Nat} {M : zMem} {B : Nat → Nat → Nat} (hL : L ≤ 2560) (hi : i + 5 ≤ L) (hC : abC M B) (hR : abR M B) (k : ∀ (M : zMem) (B : Nat → Nat → Nat), abC M B → abR M B → lV L xs 1174 [some (zr 75), some (zr 0), some (zr 9), some (zi (i : Int))] [] M) : lV L xs 361 [some (zr 75), some (zr 0), some (zr 9), some (zi (i : Int))] [] M := by
  refine l_aload rfl dL_law_361 rfl ?_
  refine l_aload rfl dL_law_362 rfl ?_
  refine l_iload rfl dL_law_363 rfl ?_
  refine l_iconst dL_law_364 ?_
  refine l_iadd dL_law_365 ?_
  refine l_sald (i + 1) (by omega) (by omega) hL dL_law_366 ?_
  refine l_aload rfl dL_law_367 rfl ?_
  refine l_iload rfl dL_law_368 rfl ?_
  refine l_iconst dL_law_369 ?_
  refine l_iadd dL_law_370 ?_
  refine l_sald (i + 2) (by omega) (by omega) hL dL_law_371 ?_
  refine lc_36 dL_law_372 (by decide) (Nat.le_of_ble_eq_true rfl) (sp_S_number M B ((xs (i + 1)).toInt) ((xs (i + 2)).toInt) (zrng_toInt _) (zrng_toInt _) hC) (fun r1 M1 q1 => ?_)
  obtain ⟨e1, f1, c1⟩ := q1
  subst e1
  have hR1 := hR.frC f1
  refine l_aload rfl dL_law_375 rfl ?_
  refine l_aload rfl dL_law_376 rfl ?_
  refine l_iload rfl dL_law_377 rfl ?_
  refine l_iconst dL_law_378 ?_
  refine l_iadd dL_law_379 ?_
  refine l_sald (i + 1) (by omega) (by omega) hL dL_law_380 ?_
  refine l_aload rfl dL_law_381 rfl ?_
  refine l_iload rfl dL_law_382 rfl ?_
  refine l_iconst dL_law_383 ?_
  refine l_iadd dL_law_384 ?_
  refine l_sald (i + 2) (by omega) (by omega) hL dL_law_385 ?_
  refine lc_39 dL_law_386 (by decide) (Nat.le_of_ble_eq_true rfl) (sp_Model_number M1 B ((xs (i + 1)).toInt) ((xs (i + 2)).toInt) (zrng_toInt _) (zrng_toInt _) hR1) (fun r2 M2 q2 => ?_)
  obtain ⟨e2, f2, c2⟩ := q2
  subst e2
  refine l_same (tgt := 1174) dL_law_389 (by decide) ?_
  exact k M2 _ (c1.frR f2) c2
theorem law_c6 {L : Nat} {xs : Nat → Int32} {i : Nat} {M : zMem} {B : Nat → Nat → Nat} (hL : L ≤ 2560) (hi : i + 5 ≤ L) (hC : abC M B) (hR : abR M B) (k : ∀ (M : zMem) (B : Nat → Nat → Nat), abC M B → abR M B → lV L xs 1174 [some (zr 75), some (zr 0), some (zr 9), some (zi (i : Int))] [] M) : lV L xs 394 [some (zr 75), some (zr 0), some (zr 9), some (zi (i : Int))] [] M := by
  refine l_aload rfl dL_law_394 rfl ?_
  refine l_aload rfl dL_law_395 rfl ?_
  refine l_iload rfl dL_law_396 rfl ?_
  refine l_iconst dL_law_397 ?_
  refine l_iadd dL_law_398 ?_
  refine l_sald (i + 1) (by omega) (by omega) hL dL_law_399 ?_
  refine l_aload rfl dL_law_400 rfl ?_
  refine l_iload rfl dL_law_401 rfl ?_
  refine l_iconst dL_law_402 ?_
  refine l_iadd dL_law_403 ?_
  refine l_sald (i + 2) (by omega) (by omega) hL dL_law_404 ?_
  refine lc_40 dL_law_405 (by decide) (Nat.le_of_ble_eq_true rfl) (sp_S_keeps M B ((xs (i + 1)).toInt) ((xs (i + 2)).toInt) (zrng_toInt _) (zrng_toInt _) hC) (fun r1 M1 q1 => ?_)
  obtain ⟨e1, f1, c1⟩ := q1
  subst e1
  have hR1 := hR.frC f1
  refine l_aload rfl dL_law_408 rfl ?_
  refine l_aload rfl dL_law_409 rfl ?_
  refine l_iload rfl dL_law_410 rfl ?_
  refine l_iconst dL_law_411 ?_
  refine l_iadd dL_law_412 ?_
  refine l_sald (i + 1) (by omega) (by omega) hL dL_law_413 ?_
  refine l_aload rfl dL_law_414 rfl ?_
  refine l_iload rfl dL_law_415 rfl ?_
  refine l_iconst dL_law_416 ?_
  refine l_iadd dL_law_417 ?_
  refine l_sald (i + 2) (by omega) (by omega) hL dL_law_418 ?_
  refine lc_43 dL_law_419 (by decide) (Nat.le_of_ble_eq_true rfl) (sp_Model_keeps M1 B ((xs (i + 1)).toInt) ((xs (i + 2)).toInt) (zrng_toInt _) (zrng_toInt _) hR1) (fun r2 M2 q2 => ?_)
  obtain ⟨e2, f2, c2⟩ := q2
  subst e2
  refine l_same (tgt := 1174) dL_law_422 (by decide) ?_
  exact k M2 _ (c1.frR f2) c2
theorem law_c7 {L : Nat} {xs : Nat → Int32} {i : Nat} {M : zMem} {B : Nat → Nat → Nat} (hL : L ≤ 2560) (hi : i + 5 ≤ L) (hC : abC M B) (hR : abR M B) (k : ∀ (M : zMem) (B : Nat → Nat → Nat), abC M B → abR M B → lV L xs 1174 [some (zr 75), some (zr 0), some (zr 9), some (zi (i : Int))] [] M) : lV L xs 427 [some (zr 75), some (zr 0), some (zr 9), some (zi (i : Int))] [] M := by
  refine l_aload rfl dL_law_427 rfl ?_
  refine l_aload rfl dL_law_428 rfl ?_
  refine l_iload rfl dL_law_429 rfl ?_
  refine l_iconst dL_law_430 ?_
  refine l_iadd dL_law_431 ?_
  refine l_sald (i + 1) (by omega) (by omega) hL dL_law_432 ?_
  refine l_aload rfl dL_law_433 rfl ?_
  refine l_iload rfl dL_law_434 rfl ?_
  refine l_iconst dL_law_435 ?_
  refine l_iadd dL_law_436 ?_
  refine l_sald (i + 2) (by omega) (by omega) hL dL_law_437 ?_
  refine lc_44 dL_law_438 (by decide) (Nat.le_of_ble_eq_true rfl) (sp_S_breaks M B ((xs (i + 1)).toInt) ((xs (i + 2)).toInt) (zrng_toInt _) (zrng_toInt _) hC) (fun r1 M1 q1 => ?_)
  obtain ⟨e1, f1, c1⟩ := q1
  subst e1
  have hR1 := hR.frC f1
  refine l_aload rfl dL_law_441 rfl ?_
  refine l_aload rfl dL_law_442 rfl ?_
  refine l_iload rfl dL_law_443 rfl ?_
  refine l_iconst dL_law_444 ?_
  refine l_iadd dL_law_445 ?_
  refine l_sald (i + 1) (by omega) (by omega) hL dL_law_446 ?_
  refine l_aload rfl dL_law_447 rfl ?_
  refine l_iload rfl dL_law_448 rfl ?_
  refine l_iconst dL_law_449 ?_
  refine l_iadd dL_law_450 ?_
  refine l_sald (i + 2) (by omega) (by omega) hL dL_law_451 ?_
  refine lc_47 dL_law_452 (by decide) (Nat.le_of_ble_eq_true rfl) (sp_Model_breaks M1 B ((xs (i + 1)).toInt) ((xs (i + 2)).toInt) (zrng_toInt _) (zrng_toInt _) hR1) (fun r2 M2 q2 => ?_)
  obtain ⟨e2, f2, c2⟩ := q2
  subst e2
  refine l_same (tgt := 1174) dL_law_455 (by decide) ?_
  exact k M2 _ (c1.frR f2) c2
theorem law_c8 {L : Nat} {xs : Nat → Int32} {i : Nat} {M : zMem} {B : Nat → Nat → Nat} (hL : L ≤ 2560) (hi : i + 5 ≤ L) (hC : abC M B) (hR : abR M B) (k : ∀ (M : zMem) (B : Nat → Nat → Nat), abC M B → abR M B → lV L xs 1174 [some (zr 75), some (zr 0), some (zr 9), some (zi (i : Int))] [] M) : lV L xs 460 [some (zr 75), some (zr 0), some (zr 9), some (zi (i : Int))] [] M := by
  refine l_aload rfl dL_law_460 rfl ?_
  refine l_aload rfl dL_law_461 rfl ?_
  refine l_iload rfl dL_law_462 rfl ?_
  refine l_iconst dL_law_463 ?_
  refine l_iadd dL_law_464 ?_
  refine l_sald (i + 1) (by omega) (by omega) hL dL_law_465 ?_
  refine l_aload rfl dL_law_466 rfl ?_
  refine l_iload rfl dL_law_467 rfl ?_
  refine l_iconst dL_law_468 ?_
  refine l_iadd dL_law_469 ?_
  refine l_sald (i + 2) (by omega) (by omega) hL dL_law_470 ?_
  refine lc_48 dL_law_471 (by decide) (Nat.le_of_ble_eq_true rfl) (sp_S_plain M B ((xs (i + 1)).toInt) ((xs (i + 2)).toInt) (zrng_toInt _) (zrng_toInt _) hC) (fun r1 M1 q1 => ?_)
  obtain ⟨e1, f1, c1⟩ := q1
  subst e1
  have hR1 := hR.frC f1
  refine l_aload rfl dL_law_474 rfl ?_
  refine l_aload rfl dL_law_475 rfl ?_
  refine l_iload rfl dL_law_476 rfl ?_
  refine l_iconst dL_law_477 ?_
  refine l_iadd dL_law_478 ?_
  refine l_sald (i + 1) (by omega) (by omega) hL dL_law_479 ?_
  refine l_aload rfl dL_law_480 rfl ?_
  refine l_iload rfl dL_law_481 rfl ?_
  refine l_iconst dL_law_482 ?_
  refine l_iadd dL_law_483 ?_
  refine l_sald (i + 2) (by omega) (by omega) hL dL_law_484 ?_
  refine lc_51 dL_law_485 (by decide) (Nat.le_of_ble_eq_true rfl) (sp_Model_plain M1 B ((xs (i + 1)).toInt) ((xs (i + 2)).toInt) (zrng_toInt _) (zrng_toInt _) hR1) (fun r2 M2 q2 => ?_)
  obtain ⟨e2, f2, c2⟩ := q2
  subst e2
  refine l_same (tgt := 1174) dL_law_488 (by decide) ?_
  exact k M2 _ (c1.frR f2) c2
theorem law_c9 {L : Nat} {xs : Nat → Int32} {i : Nat} {M : zMem} {B : Nat → Nat → Nat} (hL : L ≤ 2560) (hi : i + 5 ≤ L) (hC : abC M B) (hR : abR M B) (k : ∀ (M : zMem) (B : Nat → Nat → Nat), abC M B → abR M B → lV L xs 1174 [some (zr 75), some (zr 0), some (zr 9), some (zi (i : Int))] [] M) : lV L xs 493 [some (zr 75), some (zr 0), some (zr 9), some (zi (i : Int))] [] M := by
  refine l_aload rfl dL_law_493 rfl ?_
  refine l_aload rfl dL_law_494 rfl ?_
  refine l_iload rfl dL_law_495 rfl ?_
  refine l_iconst dL_law_496 ?_
  refine l_iadd dL_law_497 ?_
  refine l_sald (i + 1) (by omega) (by omega) hL dL_law_498 ?_
  refine lc_52 dL_law_499 (by decide) (Nat.le_of_ble_eq_true rfl) (sp_S_list M B ((xs (i + 1)).toInt) (zrng_toInt _) hC) (fun r1 M1 q1 => ?_)
  obtain ⟨e1, f1, c1⟩ := q1
  subst e1
  have hR1 := hR.frC f1
  refine l_aload rfl dL_law_502 rfl ?_
  refine l_aload rfl dL_law_503 rfl ?_
  refine l_iload rfl dL_law_504 rfl ?_
  refine l_iconst dL_law_505 ?_
  refine l_iadd dL_law_506 ?_
  refine l_sald (i + 1) (by omega) (by omega) hL dL_law_507 ?_
  refine lc_56 dL_law_508 (by decide) (Nat.le_of_ble_eq_true rfl) (sp_Model_list M1 B ((xs (i + 1)).toInt) (zrng_toInt _) hR1) (fun r2 M2 q2 => ?_)
  obtain ⟨e2, f2, c2⟩ := q2
  subst e2
  refine l_same (tgt := 1174) dL_law_511 (by decide) ?_
  exact k M2 _ (c1.frR f2) c2
theorem law_c10 {L : Nat} {xs : Nat → Int32} {i : Nat} {M : zMem} {B : Nat → Nat → Nat} (hL : L ≤ 2560) (hi : i + 5 ≤ L) (hC : abC M B) (hR : abR M B) (k : ∀ (M : zMem) (B : Nat → Nat → Nat), abC M B → abR M B → lV L xs 1174 [some (zr 75), some (zr 0), some (zr 9), some (zi (i : Int))] [] M) : lV L xs 516 [some (zr 75), some (zr 0), some (zr 9), some (zi (i : Int))] [] M := by
  refine l_aload rfl dL_law_516 rfl ?_
  refine l_aload rfl dL_law_517 rfl ?_
  refine l_iload rfl dL_law_518 rfl ?_
  refine l_iconst dL_law_519 ?_
  refine l_iadd dL_law_520 ?_
  refine l_sald (i + 1) (by omega) (by omega) hL dL_law_521 ?_
  refine l_aload rfl dL_law_522 rfl ?_
  refine l_iload rfl dL_law_523 rfl ?_
  refine l_iconst dL_law_524 ?_
  refine l_iadd dL_law_525 ?_
  refine l_sald (i + 2) (by omega) (by omega) hL dL_law_526 ?_
  refine lc_57 dL_law_527 (by decide) (Nat.le_of_ble_eq_true rfl) (sp_S_world M B ((xs (i + 1)).toInt) ((xs (i + 2)).toInt) (zrng_toInt _) (zrng_toInt _) hC) (fun r1 M1 q1 => ?_)
  obtain ⟨e1, f1, c1⟩ := q1
  subst e1
  have hR1 := hR.frC f1
  refine l_aload rfl dL_law_530 rfl ?_
  refine l_aload rfl dL_law_531 rfl ?_
  refine l_iload rfl dL_law_532 rfl ?_
  refine l_iconst dL_law_533 ?_
  refine l_iadd dL_law_534 ?_
  refine l_sald (i + 1) (by omega) (by omega) hL dL_law_535 ?_
  refine l_aload rfl dL_law_536 rfl ?_
  refine l_iload rfl dL_law_537 rfl ?_
  refine l_iconst dL_law_538 ?_
  refine l_iadd dL_law_539 ?_
  refine l_sald (i + 2) (by omega) (by omega) hL dL_law_540 ?_
  refine lc_60 dL_law_541 (by decide) (Nat.le_of_ble_eq_true rfl) (sp_Model_world M1 B ((xs (i + 1)).toInt) ((xs (i + 2)).toInt) (zrng_toInt _) (zrng_toInt _) hR1) (fun r2 M2 q2 => ?_)
  obtain ⟨e2, f2, c2⟩ := q2
  subst e2
  refine l_same (tgt := 1174) dL_law_544 (by decide) ?_
  exact k M2 _ (c1.frR f2) c2
theorem law_c11 {L : Nat} {xs : Nat → Int32} {i : Nat} {M : zMem} {B : Nat → Nat → Nat} (hL : L ≤ 2560) (hi : i + 5 ≤ L) (hC : abC M B) (hR : abR M B) (k : ∀ (M : zMem) (B : Nat → Nat → Nat), abC M B → abR M B → lV L xs 1174 [some (zr 75), some (zr 0), some (zr 9), some (zi (i : Int))] [] M) : lV L xs 549 [some (zr 75), some (zr 0), some (zr 9), some (zi (i : Int))] [] M := by
  refine l_aload rfl dL_law_549 rfl ?_
  refine l_aload rfl dL_law_550 rfl ?_
  refine l_iload rfl dL_law_551 rfl ?_
  refine l_iconst dL_law_552 ?_
  refine l_iadd dL_law_553 ?_
  refine l_sald (i + 1) (by omega) (by omega) hL dL_law_554 ?_
  refine l_aload rfl dL_law_555 rfl ?_
  refine l_iload rfl dL_law_556 rfl ?_
  refine l_iconst dL_law_557 ?_
  refine l_iadd dL_law_558 ?_
  refine l_sald (i + 2) (by omega) (by omega) hL dL_law_559 ?_
  refine l_aload rfl dL_law_560 rfl ?_
  refine l_iload rfl dL_law_561 rfl ?_
  refine l_iconst dL_law_562 ?_
  refine l_iadd dL_law_563 ?_
  refine l_sald (i + 3) (by omega) (by omega) hL dL_law_564 ?_
  refine lc_61 dL_law_565 (by decide) (Nat.le_of_ble_eq_true rfl) (sp_S_make M B ((xs (i + 1)).toInt) ((xs (i + 2)).toInt) ((xs (i + 3)).toInt) (zrng_toInt _) (zrng_toInt _) (zrng_toInt _) hC) (fun r1 M1 q1 => ?_)
  obtain ⟨e1, f1, c1⟩ := q1
  subst e1
  have hR1 := hR.frC f1
  refine l_aload rfl dL_law_568 rfl ?_
  refine l_aload rfl dL_law_569 rfl ?_
  refine l_iload rfl dL_law_570 rfl ?_
  refine l_iconst dL_law_571 ?_
  refine l_iadd dL_law_572 ?_
  refine l_sald (i + 1) (by omega) (by omega) hL dL_law_573 ?_
  refine l_aload rfl dL_law_574 rfl ?_
  refine l_iload rfl dL_law_575 rfl ?_
  refine l_iconst dL_law_576 ?_
  refine l_iadd dL_law_577 ?_
  refine l_sald (i + 2) (by omega) (by omega) hL dL_law_578 ?_
  refine l_aload rfl dL_law_579 rfl ?_
  refine l_iload rfl dL_law_580 rfl ?_
  refine l_iconst dL_law_581 ?_
  refine l_iadd dL_law_582 ?_
  refine l_sald (i + 3) (by omega) (by omega) hL dL_law_583 ?_
  refine lc_65 dL_law_584 (by decide) (Nat.le_of_ble_eq_true rfl) (sp_Model_make M1 B ((xs (i + 1)).toInt) ((xs (i + 2)).toInt) ((xs (i + 3)).toInt) (zrng_toInt _) (zrng_toInt _) (zrng_toInt _) hR1) (fun r2 M2 q2 => ?_)
  obtain ⟨e2, f2, c2⟩ := q2
  subst e2
  refine l_same (tgt := 1174) dL_law_587 (by decide) ?_
  exact k M2 _ (c1.frR f2) c2
theorem law_c12 {L : Nat} {xs : Nat → Int32} {i : Nat} {M : zMem} {B : Nat → Nat → Nat} (hL : L ≤ 2560) (hi : i + 5 ≤ L) (hC : abC M B) (hR : abR M B) (k : ∀ (M : zMem) (B : Nat → Nat → Nat), abC M B → abR M B → lV L xs 1174 [some (zr 75), some (zr 0), some (zr 9), some (zi (i : Int))] [] M) : lV L xs 592 [some (zr 75), some (zr 0), some (zr 9), some (zi (i : Int))] [] M := by
  refine l_aload rfl dL_law_592 rfl ?_
  refine l_aload rfl dL_law_593 rfl ?_
  refine l_iload rfl dL_law_594 rfl ?_
  refine l_iconst dL_law_595 ?_
  refine l_iadd dL_law_596 ?_
  refine l_sald (i + 1) (by omega) (by omega) hL dL_law_597 ?_
  refine l_aload rfl dL_law_598 rfl ?_
  refine l_iload rfl dL_law_599 rfl ?_
  refine l_iconst dL_law_600 ?_
  refine l_iadd dL_law_601 ?_
  refine l_sald (i + 2) (by omega) (by omega) hL dL_law_602 ?_
  refine l_aload rfl dL_law_603 rfl ?_
  refine l_iload rfl dL_law_604 rfl ?_
  refine l_iconst dL_law_605 ?_
  refine l_iadd dL_law_606 ?_
  refine l_sald (i + 3) (by omega) (by omega) hL dL_law_607 ?_
  refine l_aload rfl dL_law_608 rfl ?_
  refine l_iload rfl dL_law_609 rfl ?_
  refine l_iconst dL_law_610 ?_
  refine l_iadd dL_law_611 ?_
  refine l_sald (i + 4) (by omega) (by omega) hL dL_law_612 ?_
  refine lc_66 dL_law_613 (by decide) (Nat.le_of_ble_eq_true rfl) (sp_S_yes M B ((xs (i + 1)).toInt) ((xs (i + 2)).toInt) ((xs (i + 3)).toInt) ((xs (i + 4)).toInt) (zrng_toInt _) (zrng_toInt _) (zrng_toInt _) (zrng_toInt _) hC) (fun r1 M1 q1 => ?_)
  obtain ⟨e1, f1, c1⟩ := q1
  subst e1
  have hR1 := hR.frC f1
  refine l_aload rfl dL_law_616 rfl ?_
  refine l_aload rfl dL_law_617 rfl ?_
  refine l_iload rfl dL_law_618 rfl ?_
  refine l_iconst dL_law_619 ?_
  refine l_iadd dL_law_620 ?_
  refine l_sald (i + 1) (by omega) (by omega) hL dL_law_621 ?_
  refine l_aload rfl dL_law_622 rfl ?_
  refine l_iload rfl dL_law_623 rfl ?_
  refine l_iconst dL_law_624 ?_
  refine l_iadd dL_law_625 ?_
  refine l_sald (i + 2) (by omega) (by omega) hL dL_law_626 ?_
  refine l_aload rfl dL_law_627 rfl ?_
  refine l_iload rfl dL_law_628 rfl ?_
  refine l_iconst dL_law_629 ?_
  refine l_iadd dL_law_630 ?_
  refine l_sald (i + 3) (by omega) (by omega) hL dL_law_631 ?_
  refine l_aload rfl dL_law_632 rfl ?_
  refine l_iload rfl dL_law_633 rfl ?_
  refine l_iconst dL_law_634 ?_
  refine l_iadd dL_law_635 ?_
  refine l_sald (i + 4) (by omega) (by omega) hL dL_law_636 ?_
  refine lc_70 dL_law_637 (by decide) (Nat.le_of_ble_eq_true rfl) (sp_Model_yes M1 B ((xs (i + 1)).toInt) ((xs (i + 2)).toInt) ((xs (i + 3)).toInt) ((xs (i + 4)).toInt) (zrng_toInt _) (zrng_toInt _) (zrng_toInt _) (zrng_toInt _) hR1) (fun r2 M2 q2 => ?_)
  obtain ⟨e2, f2, c2⟩ := q2
  subst e2
  refine l_same (tgt := 1174) dL_law_640 (by decide) ?_
  exact k M2 _ (c1.frR f2) c2
theorem law_c13 {L : Nat} {xs : Nat → Int32} {i : Nat} {M : zMem} {B : Nat → Nat → Nat} (hL : L ≤ 2560) (hi : i + 5 ≤ L) (hC : abC M B) (hR : abR M B) (k : ∀ (M : zMem) (B : Nat → Nat → Nat), abC M B → abR M B → lV L xs 1174 [some (zr 75), some (zr 0), some (zr 9), some (zi (i : Int))] [] M) : lV L xs 645 [some (zr 75), some (zr 0), some (zr 9), some (zi (i : Int))] [] M := by
  refine l_aload rfl dL_law_645 rfl ?_
  refine l_aload rfl dL_law_646 rfl ?_
  refine l_iload rfl dL_law_647 rfl ?_
  refine l_iconst dL_law_648 ?_
  refine l_iadd dL_law_649 ?_
  refine l_sald (i + 1) (by omega) (by omega) hL dL_law_650 ?_
  refine lc_71 dL_law_651 (by decide) (Nat.le_of_ble_eq_true rfl) (sp_S_many M B ((xs (i + 1)).toInt) (zrng_toInt _) hC) (fun r1 M1 q1 => ?_)
  obtain ⟨e1, f1, c1⟩ := q1
  subst e1
  have hR1 := hR.frC f1
  refine l_aload rfl dL_law_654 rfl ?_
  refine l_aload rfl dL_law_655 rfl ?_
  refine l_iload rfl dL_law_656 rfl ?_
  refine l_iconst dL_law_657 ?_
  refine l_iadd dL_law_658 ?_
  refine l_sald (i + 1) (by omega) (by omega) hL dL_law_659 ?_
  refine lc_74 dL_law_660 (by decide) (Nat.le_of_ble_eq_true rfl) (sp_Model_many M1 B ((xs (i + 1)).toInt) (zrng_toInt _) hR1) (fun r2 M2 q2 => ?_)
  obtain ⟨e2, f2, c2⟩ := q2
  subst e2
  refine l_same (tgt := 1174) dL_law_663 (by decide) ?_
  exact k M2 _ (c1.frR f2) c2
theorem law_c14 {L : Nat} {xs : Nat → Int32} {i : Nat} {M : zMem} {B : Nat → Nat → Nat} (hL : L ≤ 2560) (hi : i + 5 ≤ L) (hC : abC M B) (hR : abR M B) (k : ∀ (M : zMem) (B : Nat → Nat → Nat), abC M B → abR M B → lV L xs 1174 [some (zr 75), some (zr 0), some (zr 9), some (zi (i : Int))] [] M) : lV L xs 668 [some (zr 75), some (zr 0), some (zr 9), some (zi (i : Int))] [] M := by
  refine l_aload rfl dL_law_668 rfl ?_
  refine l_aload rfl dL_law_669 rfl ?_
  refine l_iload rfl dL_law_670 rfl ?_
  refine l_iconst dL_law_671 ?_
  refine l_iadd dL_law_672 ?_
  refine l_sald (i + 1) (by omega) (by omega) hL dL_law_673 ?_
  refine lc_75 dL_law_674 (by decide) (Nat.le_of_ble_eq_true rfl) (sp_S_twin M B ((xs (i + 1)).toInt) (zrng_toInt _) hC) (fun r1 M1 q1 => ?_)
  obtain ⟨e1, f1, c1⟩ := q1
  subst e1
  have hR1 := hR.frC f1
  refine l_aload rfl dL_law_677 rfl ?_
  refine l_aload rfl dL_law_678 rfl ?_
  refine l_iload rfl dL_law_679 rfl ?_
  refine l_iconst dL_law_680 ?_
  refine l_iadd dL_law_681 ?_
  refine l_sald (i + 1) (by omega) (by omega) hL dL_law_682 ?_
  refine lc_78 dL_law_683 (by decide) (Nat.le_of_ble_eq_true rfl) (sp_Model_twin M1 B ((xs (i + 1)).toInt) (zrng_toInt _) hR1) (fun r2 M2 q2 => ?_)
  obtain ⟨e2, f2, c2⟩ := q2
  subst e2
  refine l_same (tgt := 1174) dL_law_686 (by decide) ?_
  exact k M2 _ (c1.frR f2) c2
theorem law_c15 {L : Nat} {xs : Nat → Int32} {i : Nat} {M : zMem} {B : Nat → Nat → Nat} (hL : L ≤ 2560) (hi : i + 5 ≤ L) (hC : abC M B) (hR : abR M B) (k : ∀ (M : zMem) (B : Nat → Nat → Nat), abC M B → abR M B → lV L xs 1174 [some (zr 75), some (zr 0), some (zr 9), some (zi (i : Int))] [] M) : lV L xs 691 [some (zr 75), some (zr 0), some (zr 9), some (zi (i : Int))] [] M := by
  refine l_aload rfl dL_law_691 rfl ?_
  refine l_aload rfl dL_law_692 rfl ?_
  refine l_iload rfl dL_law_693 rfl ?_
  refine l_iconst dL_law_694 ?_
  refine l_iadd dL_law_695 ?_
  refine l_sald (i + 1) (by omega) (by omega) hL dL_law_696 ?_
  refine l_aload rfl dL_law_697 rfl ?_
  refine l_iload rfl dL_law_698 rfl ?_
  refine l_iconst dL_law_699 ?_
  refine l_iadd dL_law_700 ?_
  refine l_sald (i + 2) (by omega) (by omega) hL dL_law_701 ?_
  refine lc_79 dL_law_702 (by decide) (Nat.le_of_ble_eq_true rfl) (sp_S_butFor M B ((xs (i + 1)).toInt) ((xs (i + 2)).toInt) (zrng_toInt _) (zrng_toInt _) hC) (fun r1 M1 q1 => ?_)
  obtain ⟨e1, f1, c1⟩ := q1
  subst e1
  have hR1 := hR.frC f1
  refine l_aload rfl dL_law_705 rfl ?_
  refine l_aload rfl dL_law_706 rfl ?_
  refine l_iload rfl dL_law_707 rfl ?_
  refine l_iconst dL_law_708 ?_
  refine l_iadd dL_law_709 ?_
  refine l_sald (i + 1) (by omega) (by omega) hL dL_law_710 ?_
  refine l_aload rfl dL_law_711 rfl ?_
  refine l_iload rfl dL_law_712 rfl ?_
  refine l_iconst dL_law_713 ?_
  refine l_iadd dL_law_714 ?_
  refine l_sald (i + 2) (by omega) (by omega) hL dL_law_715 ?_
  refine lc_82 dL_law_716 (by decide) (Nat.le_of_ble_eq_true rfl) (sp_Model_butFor M1 B ((xs (i + 1)).toInt) ((xs (i + 2)).toInt) (zrng_toInt _) (zrng_toInt _) hR1) (fun r2 M2 q2 => ?_)
  obtain ⟨e2, f2, c2⟩ := q2
  subst e2
  refine l_same (tgt := 1174) dL_law_719 (by decide) ?_
  exact k M2 _ (c1.frR f2) c2
theorem law_c16 {L : Nat} {xs : Nat → Int32} {i : Nat} {M : zMem} {B : Nat → Nat → Nat} (hL : L ≤ 2560) (hi : i + 5 ≤ L) (hC : abC M B) (hR : abR M B) (k : ∀ (M : zMem) (B : Nat → Nat → Nat), abC M B → abR M B → lV L xs 1174 [some (zr 75), some (zr 0), some (zr 9), some (zi (i : Int))] [] M) : lV L xs 724 [some (zr 75), some (zr 0), some (zr 9), some (zi (i : Int))] [] M := by
  refine l_aload rfl dL_law_724 rfl ?_
  refine l_aload rfl dL_law_725 rfl ?_
  refine l_iload rfl dL_law_726 rfl ?_
  refine l_iconst dL_law_727 ?_
  refine l_iadd dL_law_728 ?_
  refine l_sald (i + 1) (by omega) (by omega) hL dL_law_729 ?_
  refine l_aload rfl dL_law_730 rfl ?_
  refine l_iload rfl dL_law_731 rfl ?_
  refine l_iconst dL_law_732 ?_
  refine l_iadd dL_law_733 ?_
  refine l_sald (i + 2) (by omega) (by omega) hL dL_law_734 ?_
  refine l_aload rfl dL_law_735 rfl ?_
  refine l_iload rfl dL_law_736 rfl ?_
  refine l_iconst dL_law_737 ?_
  refine l_iadd dL_law_738 ?_
  refine l_sald (i + 3) (by omega) (by omega) hL dL_law_739 ?_
  refine lc_83 dL_law_740 (by decide) (Nat.le_of_ble_eq_true rfl) (sp_S_look M B ((xs (i + 1)).toInt) ((xs (i + 2)).toInt) ((xs (i + 3)).toInt) (zrng_toInt _) (zrng_toInt _) (zrng_toInt _) hC) (fun r1 M1 q1 => ?_)
  obtain ⟨e1, f1, c1⟩ := q1
  subst e1
  have hR1 := hR.frC f1
  refine l_aload rfl dL_law_743 rfl ?_
  refine l_aload rfl dL_law_744 rfl ?_
  refine l_iload rfl dL_law_745 rfl ?_
  refine l_iconst dL_law_746 ?_
  refine l_iadd dL_law_747 ?_
  refine l_sald (i + 1) (by omega) (by omega) hL dL_law_748 ?_
  refine l_aload rfl dL_law_749 rfl ?_
  refine l_iload rfl dL_law_750 rfl ?_
  refine l_iconst dL_law_751 ?_
  refine l_iadd dL_law_752 ?_
  refine l_sald (i + 2) (by omega) (by omega) hL dL_law_753 ?_
  refine l_aload rfl dL_law_754 rfl ?_
  refine l_iload rfl dL_law_755 rfl ?_
  refine l_iconst dL_law_756 ?_
  refine l_iadd dL_law_757 ?_
  refine l_sald (i + 3) (by omega) (by omega) hL dL_law_758 ?_
  refine lc_86 dL_law_759 (by decide) (Nat.le_of_ble_eq_true rfl) (sp_Model_look M1 B ((xs (i + 1)).toInt) ((xs (i + 2)).toInt) ((xs (i + 3)).toInt) (zrng_toInt _) (zrng_toInt _) (zrng_toInt _) hR1) (fun r2 M2 q2 => ?_)
  obtain ⟨e2, f2, c2⟩ := q2
  subst e2
  refine l_same (tgt := 1174) dL_law_762 (by decide) ?_
  exact k M2 _ (c1.frR f2) c2
theorem law_c17 {L : Nat} {xs : Nat → Int32} {i : Nat} {M : zMem} {B : Nat → Nat → Nat} (hL : L ≤ 2560) (hi : i + 5 ≤ L) (hC : abC M B) (hR : abR M B) (k : ∀ (M : zMem) (B : Nat → Nat → Nat), abC M B → abR M B → lV L xs 1174 [some (zr 75), some (zr 0), some (zr 9), some (zi (i : Int))] [] M) : lV L xs 767 [some (zr 75), some (zr 0), some (zr 9), some (zi (i : Int))] [] M := by
  refine l_aload rfl dL_law_767 rfl ?_
  refine l_aload rfl dL_law_768 rfl ?_
  refine l_iload rfl dL_law_769 rfl ?_
  refine l_iconst dL_law_770 ?_
  refine l_iadd dL_law_771 ?_
  refine l_sald (i + 1) (by omega) (by omega) hL dL_law_772 ?_
  refine l_aload rfl dL_law_773 rfl ?_
  refine l_iload rfl dL_law_774 rfl ?_
  refine l_iconst dL_law_775 ?_
  refine l_iadd dL_law_776 ?_
  refine l_sald (i + 2) (by omega) (by omega) hL dL_law_777 ?_
  refine lc_87 dL_law_778 (by decide) (Nat.le_of_ble_eq_true rfl) (sp_S_never M B ((xs (i + 1)).toInt) ((xs (i + 2)).toInt) (zrng_toInt _) (zrng_toInt _) hC) (fun r1 M1 q1 => ?_)
  obtain ⟨e1, f1, c1⟩ := q1
  subst e1
  have hR1 := hR.frC f1
  refine l_aload rfl dL_law_781 rfl ?_
  refine l_aload rfl dL_law_782 rfl ?_
  refine l_iload rfl dL_law_783 rfl ?_
  refine l_iconst dL_law_784 ?_
  refine l_iadd dL_law_785 ?_
  refine l_sald (i + 1) (by omega) (by omega) hL dL_law_786 ?_
  refine l_aload rfl dL_law_787 rfl ?_
  refine l_iload rfl dL_law_788 rfl ?_
  refine l_iconst dL_law_789 ?_
  refine l_iadd dL_law_790 ?_
  refine l_sald (i + 2) (by omega) (by omega) hL dL_law_791 ?_
  refine lc_90 dL_law_792 (by decide) (Nat.le_of_ble_eq_true rfl) (sp_Model_never M1 B ((xs (i + 1)).toInt) ((xs (i + 2)).toInt) (zrng_toInt _) (zrng_toInt _) hR1) (fun r2 M2 q2 => ?_)
  obtain ⟨e2, f2, c2⟩ := q2
  subst e2
  refine l_same (tgt := 1174) dL_law_795 (by decide) ?_
  exact k M2 _ (c1.frR f2) c2
theorem law_c18 {L : Nat} {xs : Nat → Int32} {i : Nat} {M : zMem} {B : Nat → Nat → Nat} (hL : L ≤ 2560) (hi : i + 5 ≤ L) (hC : abC M B) (hR : abR M B) (k : ∀ (M : zMem) (B : Nat → Nat → Nat), abC M B → abR M B → lV L xs 1174 [some (zr 75), some (zr 0), some (zr 9), some (zi (i : Int))] [] M) : lV L xs 800 [some (zr 75), some (zr 0), some (zr 9), some (zi (i : Int))] [] M := by
  refine l_aload rfl dL_law_800 rfl ?_
  refine l_aload rfl dL_law_801 rfl ?_
  refine l_iload rfl dL_law_802 rfl ?_
  refine l_iconst dL_law_803 ?_
  refine l_iadd dL_law_804 ?_
  refine l_sald (i + 1) (by omega) (by omega) hL dL_law_805 ?_
  refine l_aload rfl dL_law_806 rfl ?_
  refine l_iload rfl dL_law_807 rfl ?_
  refine l_iconst dL_law_808 ?_
  refine l_iadd dL_law_809 ?_
  refine l_sald (i + 2) (by omega) (by omega) hL dL_law_810 ?_
  refine lc_91 dL_law_811 (by decide) (Nat.le_of_ble_eq_true rfl) (sp_S_deny M B ((xs (i + 1)).toInt) ((xs (i + 2)).toInt) (zrng_toInt _) (zrng_toInt _) hC) (fun r1 M1 q1 => ?_)
  obtain ⟨e1, f1, c1⟩ := q1
  subst e1
  have hR1 := hR.frC f1
  refine l_aload rfl dL_law_814 rfl ?_
  refine l_aload rfl dL_law_815 rfl ?_
  refine l_iload rfl dL_law_816 rfl ?_
  refine l_iconst dL_law_817 ?_
  refine l_iadd dL_law_818 ?_
  refine l_sald (i + 1) (by omega) (by omega) hL dL_law_819 ?_
  refine l_aload rfl dL_law_820 rfl ?_
  refine l_iload rfl dL_law_821 rfl ?_
  refine l_iconst dL_law_822 ?_
  refine l_iadd dL_law_823 ?_
  refine l_sald (i + 2) (by omega) (by omega) hL dL_law_824 ?_
  refine lc_94 dL_law_825 (by decide) (Nat.le_of_ble_eq_true rfl) (sp_Model_deny M1 B ((xs (i + 1)).toInt) ((xs (i + 2)).toInt) (zrng_toInt _) (zrng_toInt _) hR1) (fun r2 M2 q2 => ?_)
  obtain ⟨e2, f2, c2⟩ := q2
  subst e2
  refine l_same (tgt := 1174) dL_law_828 (by decide) ?_
  exact k M2 _ (c1.frR f2) c2
theorem law_c19 {L : Nat} {xs : Nat → Int32} {i : Nat} {M : zMem} {B : Nat → Nat → Nat} (hL : L ≤ 2560) (hi : i + 5 ≤ L) (hC : abC M B) (hR : abR M B) (k : ∀ (M : zMem) (B : Nat → Nat → Nat), abC M B → abR M B → lV L xs 1174 [some (zr 75), some (zr 0), some (zr 9), some (zi (i : Int))] [] M) : lV L xs 833 [some (zr 75), some (zr 0), some (zr 9), some (zi (i : Int))] [] M := by
  refine l_aload rfl dL_law_833 rfl ?_
  refine l_aload rfl dL_law_834 rfl ?_
  refine l_iload rfl dL_law_835 rfl ?_
  refine l_iconst dL_law_836 ?_
  refine l_iadd dL_law_837 ?_
  refine l_sald (i + 1) (by omega) (by omega) hL dL_law_838 ?_
  refine l_aload rfl dL_law_839 rfl ?_
  refine l_iload rfl dL_law_840 rfl ?_
  refine l_iconst dL_law_841 ?_
  refine l_iadd dL_law_842 ?_
  refine l_sald (i + 2) (by omega) (by omega) hL dL_law_843 ?_
  refine lc_95 dL_law_844 (by decide) (Nat.le_of_ble_eq_true rfl) (sp_S_weigh M B ((xs (i + 1)).toInt) ((xs (i + 2)).toInt) (zrng_toInt _) (zrng_toInt _) hC) (fun r1 M1 q1 => ?_)
  obtain ⟨e1, f1, c1⟩ := q1
  subst e1
  have hR1 := hR.frC f1
  refine l_aload rfl dL_law_847 rfl ?_
  refine l_aload rfl dL_law_848 rfl ?_
  refine l_iload rfl dL_law_849 rfl ?_
  refine l_iconst dL_law_850 ?_
  refine l_iadd dL_law_851 ?_
  refine l_sald (i + 1) (by omega) (by omega) hL dL_law_852 ?_
  refine l_aload rfl dL_law_853 rfl ?_
  refine l_iload rfl dL_law_854 rfl ?_
  refine l_iconst dL_law_855 ?_
  refine l_iadd dL_law_856 ?_
  refine l_sald (i + 2) (by omega) (by omega) hL dL_law_857 ?_
  refine lc_98 dL_law_858 (by decide) (Nat.le_of_ble_eq_true rfl) (sp_Model_weigh M1 B ((xs (i + 1)).toInt) ((xs (i + 2)).toInt) (zrng_toInt _) (zrng_toInt _) hR1) (fun r2 M2 q2 => ?_)
  obtain ⟨e2, f2, c2⟩ := q2
  subst e2
  refine l_same (tgt := 1174) dL_law_861 (by decide) ?_
  exact k M2 _ (c1.frR f2) c2
theorem law_c20 {L : Nat} {xs : Nat → Int32} {i : Nat} {M : zMem} {B : Nat → Nat → Nat} (hL : L ≤ 2560) (hi : i + 5 ≤ L) (hC : abC M B) (hR : abR M B) (k : ∀ (M : zMem) (B : Nat → Nat → Nat), abC M B → abR M B → lV L xs 1174 [some (zr 75), some (zr 0), some (zr 9), some (zi (i : Int))] [] M) : lV L xs 866 [some (zr 75), some (zr 0), some (zr 9), some (zi (i : Int))] [] M := by
  refine l_aload rfl dL_law_866 rfl ?_
  refine l_aload rfl dL_law_867 rfl ?_
  refine l_iload rfl dL_law_868 rfl ?_
  refine l_iconst dL_law_869 ?_
  refine l_iadd dL_law_870 ?_
  refine l_sald (i + 1) (by omega) (by omega) hL dL_law_871 ?_
  refine l_aload rfl dL_law_872 rfl ?_
  refine l_iload rfl dL_law_873 rfl ?_
  refine l_iconst dL_law_874 ?_
  refine l_iadd dL_law_875 ?_
  refine l_sald (i + 2) (by omega) (by omega) hL dL_law_876 ?_
  refine l_ifeq (tgt := 884) (zrng_toInt _) dL_law_877 (by decide) (fun z877 => ?_) (fun z877 => ?_)
  · refine l_iconst dL_law_884 ?_
    refine lc_99 dL_law_885 (by decide) (Nat.le_of_ble_eq_true rfl) (sp_S_wake M B ((xs (i + 1)).toInt) false (zrng_toInt _) hC) (fun r1 M1 q1 => ?_)
    obtain ⟨e1, f1, c1⟩ := q1
    subst e1
    have hR1 := hR.frC f1
    refine l_aload rfl dL_law_888 rfl ?_
    refine l_aload rfl dL_law_889 rfl ?_
    refine l_iload rfl dL_law_890 rfl ?_
    refine l_iconst dL_law_891 ?_
    refine l_iadd dL_law_892 ?_
    refine l_sald (i + 1) (by omega) (by omega) hL dL_law_893 ?_
    refine l_aload rfl dL_law_894 rfl ?_
    refine l_iload rfl dL_law_895 rfl ?_
    refine l_iconst dL_law_896 ?_
    refine l_iadd dL_law_897 ?_
    refine l_sald (i + 2) (by omega) (by omega) hL dL_law_898 ?_
    refine l_ifeq (tgt := 906) (zrng_toInt _) dL_law_899 (by decide) (fun z899 => ?_) (fun z899 => ?_)
    · refine l_iconst dL_law_906 ?_
      refine lc_102 dL_law_907 (by decide) (Nat.le_of_ble_eq_true rfl) (sp_Model_wake M1 B ((xs (i + 1)).toInt) false (zrng_toInt _) hR1) (fun r2 M2 q2 => ?_)
      obtain ⟨e2, f2, c2⟩ := q2
      subst e2
      refine l_same (tgt := 1174) dL_law_910 (by decide) ?_
      exact k M2 _ (c1.frR f2) c2
    · exact absurd z877 z899
  · refine l_iconst dL_law_880 ?_
    refine l_goto (tgt := 885) dL_law_881 (by decide) ?_
    refine lc_99 dL_law_885 (by decide) (Nat.le_of_ble_eq_true rfl) (sp_S_wake M B ((xs (i + 1)).toInt) true (zrng_toInt _) hC) (fun r1 M1 q1 => ?_)
    obtain ⟨e1, f1, c1⟩ := q1
    subst e1
    have hR1 := hR.frC f1
    refine l_aload rfl dL_law_888 rfl ?_
    refine l_aload rfl dL_law_889 rfl ?_
    refine l_iload rfl dL_law_890 rfl ?_
    refine l_iconst dL_law_891 ?_
    refine l_iadd dL_law_892 ?_
    refine l_sald (i + 1) (by omega) (by omega) hL dL_law_893 ?_
    refine l_aload rfl dL_law_894 rfl ?_
    refine l_iload rfl dL_law_895 rfl ?_
    refine l_iconst dL_law_896 ?_
    refine l_iadd dL_law_897 ?_
    refine l_sald (i + 2) (by omega) (by omega) hL dL_law_898 ?_
    refine l_ifeq (tgt := 906) (zrng_toInt _) dL_law_899 (by decide) (fun z899 => ?_) (fun z899 => ?_)
    · exact absurd z899 z877
    · refine l_iconst dL_law_902 ?_
      refine l_goto (tgt := 907) dL_law_903 (by decide) ?_
      refine lc_102 dL_law_907 (by decide) (Nat.le_of_ble_eq_true rfl) (sp_Model_wake M1 B ((xs (i + 1)).toInt) true (zrng_toInt _) hR1) (fun r2 M2 q2 => ?_)
      obtain ⟨e2, f2, c2⟩ := q2
      subst e2
      refine l_same (tgt := 1174) dL_law_910 (by decide) ?_
      exact k M2 _ (c1.frR f2) c2
theorem law_c21 {L : Nat} {xs : Nat → Int32} {i : Nat} {M : zMem} {B : Nat → Nat → Nat} (hL : L ≤ 2560) (hi : i + 5 ≤ L) (hC : abC M B) (hR : abR M B) (k : ∀ (M : zMem) (B : Nat → Nat → Nat), abC M B → abR M B → lV L xs 1174 [some (zr 75), some (zr 0), some (zr 9), some (zi (i : Int))] [] M) : lV L xs 915 [some (zr 75), some (zr 0), some (zr 9), some (zi (i : Int))] [] M := by
  refine l_aload rfl dL_law_915 rfl ?_
  refine l_aload rfl dL_law_916 rfl ?_
  refine l_iload rfl dL_law_917 rfl ?_
  refine l_iconst dL_law_918 ?_
  refine l_iadd dL_law_919 ?_
  refine l_sald (i + 1) (by omega) (by omega) hL dL_law_920 ?_
  refine l_aload rfl dL_law_921 rfl ?_
  refine l_iload rfl dL_law_922 rfl ?_
  refine l_iconst dL_law_923 ?_
  refine l_iadd dL_law_924 ?_
  refine l_sald (i + 2) (by omega) (by omega) hL dL_law_925 ?_
  refine lc_103 dL_law_926 (by decide) (Nat.le_of_ble_eq_true rfl) (sp_S_worth M B ((xs (i + 1)).toInt) ((xs (i + 2)).toInt) (zrng_toInt _) (zrng_toInt _) hC) (fun r1 M1 q1 => ?_)
  obtain ⟨e1, f1, c1⟩ := q1
  subst e1
  have hR1 := hR.frC f1
  refine l_aload rfl dL_law_929 rfl ?_
  refine l_aload rfl dL_law_930 rfl ?_
  refine l_iload rfl dL_law_931 rfl ?_
  refine l_iconst dL_law_932 ?_
  refine l_iadd dL_law_933 ?_
  refine l_sald (i + 1) (by omega) (by omega) hL dL_law_934 ?_
  refine l_aload rfl dL_law_935 rfl ?_
  refine l_iload rfl dL_law_936 rfl ?_
  refine l_iconst dL_law_937 ?_
  refine l_iadd dL_law_938 ?_
  refine l_sald (i + 2) (by omega) (by omega) hL dL_law_939 ?_
  refine lc_106 dL_law_940 (by decide) (Nat.le_of_ble_eq_true rfl) (sp_Model_worth M1 B ((xs (i + 1)).toInt) ((xs (i + 2)).toInt) (zrng_toInt _) (zrng_toInt _) hR1) (fun r2 M2 q2 => ?_)
  obtain ⟨e2, f2, c2⟩ := q2
  subst e2
  refine l_same (tgt := 1174) dL_law_943 (by decide) ?_
  exact k M2 _ (c1.frR f2) c2
theorem law_c22 {L : Nat} {xs : Nat → Int32} {i : Nat} {M : zMem} {B : Nat → Nat → Nat} (hL : L ≤ 2560) (hi : i + 5 ≤ L) (hC : abC M B) (hR : abR M B) (k : ∀ (M : zMem) (B : Nat → Nat → Nat), abC M B → abR M B → lV L xs 1174 [some (zr 75), some (zr 0), some (zr 9), some (zi (i : Int))] [] M) : lV L xs 948 [some (zr 75), some (zr 0), some (zr 9), some (zi (i : Int))] [] M := by
  refine l_aload rfl dL_law_948 rfl ?_
  refine lc_107 dL_law_949 (by decide) (Nat.le_of_ble_eq_true rfl) (sp_S_best M B   hC) (fun r1 M1 q1 => ?_)
  obtain ⟨e1, f1, c1⟩ := q1
  subst e1
  have hR1 := hR.frC f1
  refine l_aload rfl dL_law_952 rfl ?_
  refine lc_110 dL_law_953 (by decide) (Nat.le_of_ble_eq_true rfl) (sp_Model_best M1 B   hR1) (fun r2 M2 q2 => ?_)
  obtain ⟨e2, f2, c2⟩ := q2
  subst e2
  refine l_same (tgt := 1174) dL_law_956 (by decide) ?_
  exact k M2 _ (c1.frR f2) c2
theorem law_c23 {L : Nat} {xs : Nat → Int32} {i : Nat} {M : zMem} {B : Nat → Nat → Nat} (hL : L ≤ 2560) (hi : i + 5 ≤ L) (hC : abC M B) (hR : abR M B) (k : ∀ (M : zMem) (B : Nat → Nat → Nat), abC M B → abR M B → lV L xs 1174 [some (zr 75), some (zr 0), some (zr 9), some (zi (i : Int))] [] M) : lV L xs 961 [some (zr 75), some (zr 0), some (zr 9), some (zi (i : Int))] [] M := by
  refine l_aload rfl dL_law_961 rfl ?_
  refine lc_111 dL_law_962 (by decide) (Nat.le_of_ble_eq_true rfl) (sp_S_next M B   hC) (fun r1 M1 q1 => ?_)
  obtain ⟨e1, f1, c1⟩ := q1
  subst e1
  have hR1 := hR.frC f1
  refine l_aload rfl dL_law_965 rfl ?_
  refine lc_114 dL_law_966 (by decide) (Nat.le_of_ble_eq_true rfl) (sp_Model_next M1 B   hR1) (fun r2 M2 q2 => ?_)
  obtain ⟨e2, f2, c2⟩ := q2
  subst e2
  refine l_same (tgt := 1174) dL_law_969 (by decide) ?_
  exact k M2 _ (c1.frR f2) c2
theorem law_c24 {L : Nat} {xs : Nat → Int32} {i : Nat} {M : zMem} {B : Nat → Nat → Nat} (hL : L ≤ 2560) (hi : i + 5 ≤ L) (hC : abC M B) (hR : abR M B) (k : ∀ (M : zMem) (B : Nat → Nat → Nat), abC M B → abR M B → lV L xs 1174 [some (zr 75), some (zr 0), some (zr 9), some (zi (i : Int))] [] M) : lV L xs 974 [some (zr 75), some (zr 0), some (zr 9), some (zi (i : Int))] [] M := by
  refine l_aload rfl dL_law_974 rfl ?_
  refine lc_115 dL_law_975 (by decide) (Nat.le_of_ble_eq_true rfl) (sp_S_makeNext M B   hC) (fun r1 M1 q1 => ?_)
  obtain ⟨e1, f1, c1⟩ := q1
  subst e1
  have hR1 := hR.frC f1
  refine l_aload rfl dL_law_978 rfl ?_
  refine lc_118 dL_law_979 (by decide) (Nat.le_of_ble_eq_true rfl) (sp_Model_makeNext M1 B   hR1) (fun r2 M2 q2 => ?_)
  obtain ⟨e2, f2, c2⟩ := q2
  subst e2
  refine l_same (tgt := 1174) dL_law_982 (by decide) ?_
  exact k M2 _ (c1.frR f2) c2
theorem law_c25 {L : Nat} {xs : Nat → Int32} {i : Nat} {M : zMem} {B : Nat → Nat → Nat} (hL : L ≤ 2560) (hi : i + 5 ≤ L) (hC : abC M B) (hR : abR M B) (k : ∀ (M : zMem) (B : Nat → Nat → Nat), abC M B → abR M B → lV L xs 1174 [some (zr 75), some (zr 0), some (zr 9), some (zi (i : Int))] [] M) : lV L xs 987 [some (zr 75), some (zr 0), some (zr 9), some (zi (i : Int))] [] M := by
  refine l_aload rfl dL_law_987 rfl ?_
  refine l_aload rfl dL_law_988 rfl ?_
  refine l_iload rfl dL_law_989 rfl ?_
  refine l_iconst dL_law_990 ?_
  refine l_iadd dL_law_991 ?_
  refine l_sald (i + 1) (by omega) (by omega) hL dL_law_992 ?_
  refine lc_119 dL_law_993 (by decide) (Nat.le_of_ble_eq_true rfl) (sp_S_needed M B ((xs (i + 1)).toInt) (zrng_toInt _) hC) (fun r1 M1 q1 => ?_)
  obtain ⟨e1, f1, c1⟩ := q1
  subst e1
  have hR1 := hR.frC f1
  refine l_aload rfl dL_law_996 rfl ?_
  refine l_aload rfl dL_law_997 rfl ?_
  refine l_iload rfl dL_law_998 rfl ?_
  refine l_iconst dL_law_999 ?_
  refine l_iadd dL_law_1000 ?_
  refine l_sald (i + 1) (by omega) (by omega) hL dL_law_1001 ?_
  refine lc_122 dL_law_1002 (by decide) (Nat.le_of_ble_eq_true rfl) (sp_Model_needed M1 B ((xs (i + 1)).toInt) (zrng_toInt _) hR1) (fun r2 M2 q2 => ?_)
  obtain ⟨e2, f2, c2⟩ := q2
  subst e2
  refine l_same (tgt := 1174) dL_law_1005 (by decide) ?_
  exact k M2 _ (c1.frR f2) c2
theorem law_c26 {L : Nat} {xs : Nat → Int32} {i : Nat} {M : zMem} {B : Nat → Nat → Nat} (hL : L ≤ 2560) (hi : i + 5 ≤ L) (hC : abC M B) (hR : abR M B) (k : ∀ (M : zMem) (B : Nat → Nat → Nat), abC M B → abR M B → lV L xs 1174 [some (zr 75), some (zr 0), some (zr 9), some (zi (i : Int))] [] M) : lV L xs 1010 [some (zr 75), some (zr 0), some (zr 9), some (zi (i : Int))] [] M := by
  refine l_aload rfl dL_law_1010 rfl ?_
  refine lc_123 dL_law_1011 (by decide) (Nat.le_of_ble_eq_true rfl) (sp_S_least M B   hC) (fun r1 M1 q1 => ?_)
  obtain ⟨e1, f1, c1⟩ := q1
  subst e1
  have hR1 := hR.frC f1
  refine l_aload rfl dL_law_1014 rfl ?_
  refine lc_126 dL_law_1015 (by decide) (Nat.le_of_ble_eq_true rfl) (sp_Model_least M1 B   hR1) (fun r2 M2 q2 => ?_)
  obtain ⟨e2, f2, c2⟩ := q2
  subst e2
  refine l_same (tgt := 1174) dL_law_1018 (by decide) ?_
  exact k M2 _ (c1.frR f2) c2
theorem law_c27 {L : Nat} {xs : Nat → Int32} {i : Nat} {M : zMem} {B : Nat → Nat → Nat} (hL : L ≤ 2560) (hi : i + 5 ≤ L) (hC : abC M B) (hR : abR M B) (k : ∀ (M : zMem) (B : Nat → Nat → Nat), abC M B → abR M B → lV L xs 1174 [some (zr 75), some (zr 0), some (zr 9), some (zi (i : Int))] [] M) : lV L xs 1023 [some (zr 75), some (zr 0), some (zr 9), some (zi (i : Int))] [] M := by
  refine l_aload rfl dL_law_1023 rfl ?_
  refine lc_127 dL_law_1024 (by decide) (Nat.le_of_ble_eq_true rfl) (sp_S_even M B   hC) (fun r1 M1 q1 => ?_)
  obtain ⟨e1, f1, c1⟩ := q1
  subst e1
  have hR1 := hR.frC f1
  refine l_aload rfl dL_law_1027 rfl ?_
  refine lc_130 dL_law_1028 (by decide) (Nat.le_of_ble_eq_true rfl) (sp_Model_even M1 B   hR1) (fun r2 M2 q2 => ?_)
  obtain ⟨e2, f2, c2⟩ := q2
  subst e2
  refine l_same (tgt := 1174) dL_law_1031 (by decide) ?_
  exact k M2 _ (c1.frR f2) c2
theorem law_c28 {L : Nat} {xs : Nat → Int32} {i : Nat} {M : zMem} {B : Nat → Nat → Nat} (hL : L ≤ 2560) (hi : i + 5 ≤ L) (hC : abC M B) (hR : abR M B) (k : ∀ (M : zMem) (B : Nat → Nat → Nat), abC M B → abR M B → lV L xs 1174 [some (zr 75), some (zr 0), some (zr 9), some (zi (i : Int))] [] M) : lV L xs 1036 [some (zr 75), some (zr 0), some (zr 9), some (zi (i : Int))] [] M := by
  refine l_aload rfl dL_law_1036 rfl ?_
  refine l_aload rfl dL_law_1037 rfl ?_
  refine l_iload rfl dL_law_1038 rfl ?_
  refine l_iconst dL_law_1039 ?_
  refine l_iadd dL_law_1040 ?_
  refine l_sald (i + 1) (by omega) (by omega) hL dL_law_1041 ?_
  refine lc_131 dL_law_1042 (by decide) (Nat.le_of_ble_eq_true rfl) (sp_S_keep M B ((xs (i + 1)).toInt) (zrng_toInt _) hC) (fun r1 M1 q1 => ?_)
  obtain ⟨e1, f1, c1⟩ := q1
  subst e1
  have hR1 := hR.frC f1
  refine l_aload rfl dL_law_1045 rfl ?_
  refine l_aload rfl dL_law_1046 rfl ?_
  refine l_iload rfl dL_law_1047 rfl ?_
  refine l_iconst dL_law_1048 ?_
  refine l_iadd dL_law_1049 ?_
  refine l_sald (i + 1) (by omega) (by omega) hL dL_law_1050 ?_
  refine lc_134 dL_law_1051 (by decide) (Nat.le_of_ble_eq_true rfl) (sp_Model_keep M1 B ((xs (i + 1)).toInt) (zrng_toInt _) hR1) (fun r2 M2 q2 => ?_)
  obtain ⟨e2, f2, c2⟩ := q2
  subst e2
  refine l_same (tgt := 1174) dL_law_1054 (by decide) ?_
  exact k M2 _ (c1.frR f2) c2
theorem law_c29 {L : Nat} {xs : Nat → Int32} {i : Nat} {M : zMem} {B : Nat → Nat → Nat} (hL : L ≤ 2560) (hi : i + 5 ≤ L) (hC : abC M B) (hR : abR M B) (k : ∀ (M : zMem) (B : Nat → Nat → Nat), abC M B → abR M B → lV L xs 1174 [some (zr 75), some (zr 0), some (zr 9), some (zi (i : Int))] [] M) : lV L xs 1059 [some (zr 75), some (zr 0), some (zr 9), some (zi (i : Int))] [] M := by
  refine l_aload rfl dL_law_1059 rfl ?_
  refine l_aload rfl dL_law_1060 rfl ?_
  refine l_iload rfl dL_law_1061 rfl ?_
  refine l_iconst dL_law_1062 ?_
  refine l_iadd dL_law_1063 ?_
  refine l_sald (i + 1) (by omega) (by omega) hL dL_law_1064 ?_
  refine lc_135 dL_law_1065 (by decide) (Nat.le_of_ble_eq_true rfl) (sp_S_same M B ((xs (i + 1)).toInt) (zrng_toInt _) hC) (fun r1 M1 q1 => ?_)
  obtain ⟨e1, f1, c1⟩ := q1
  subst e1
  have hR1 := hR.frC f1
  refine l_aload rfl dL_law_1068 rfl ?_
  refine l_aload rfl dL_law_1069 rfl ?_
  refine l_iload rfl dL_law_1070 rfl ?_
  refine l_iconst dL_law_1071 ?_
  refine l_iadd dL_law_1072 ?_
  refine l_sald (i + 1) (by omega) (by omega) hL dL_law_1073 ?_
  refine lc_138 dL_law_1074 (by decide) (Nat.le_of_ble_eq_true rfl) (sp_Model_same M1 B ((xs (i + 1)).toInt) (zrng_toInt _) hR1) (fun r2 M2 q2 => ?_)
  obtain ⟨e2, f2, c2⟩ := q2
  subst e2
  refine l_same (tgt := 1174) dL_law_1077 (by decide) ?_
  exact k M2 _ (c1.frR f2) c2
theorem law_c30 {L : Nat} {xs : Nat → Int32} {i : Nat} {M : zMem} {B : Nat → Nat → Nat} (hL : L ≤ 2560) (hi : i + 5 ≤ L) (hC : abC M B) (hR : abR M B) (k : ∀ (M : zMem) (B : Nat → Nat → Nat), abC M B → abR M B → lV L xs 1174 [some (zr 75), some (zr 0), some (zr 9), some (zi (i : Int))] [] M) : lV L xs 1082 [some (zr 75), some (zr 0), some (zr 9), some (zi (i : Int))] [] M := by
  refine l_aload rfl dL_law_1082 rfl ?_
  refine l_aload rfl dL_law_1083 rfl ?_
  refine l_iload rfl dL_law_1084 rfl ?_
  refine l_iconst dL_law_1085 ?_
  refine l_iadd dL_law_1086 ?_
  refine l_sald (i + 1) (by omega) (by omega) hL dL_law_1087 ?_
  refine l_aload rfl dL_law_1088 rfl ?_
  refine l_iload rfl dL_law_1089 rfl ?_
  refine l_iconst dL_law_1090 ?_
  refine l_iadd dL_law_1091 ?_
  refine l_sald (i + 2) (by omega) (by omega) hL dL_law_1092 ?_
  refine lc_139 dL_law_1093 (by decide) (Nat.le_of_ble_eq_true rfl) (sp_S_shown M B ((xs (i + 1)).toInt) ((xs (i + 2)).toInt) (zrng_toInt _) (zrng_toInt _) hC) (fun r1 M1 q1 => ?_)
  obtain ⟨e1, f1, c1⟩ := q1
  subst e1
  have hR1 := hR.frC f1
  refine l_aload rfl dL_law_1096 rfl ?_
  refine l_aload rfl dL_law_1097 rfl ?_
  refine l_iload rfl dL_law_1098 rfl ?_
  refine l_iconst dL_law_1099 ?_
  refine l_iadd dL_law_1100 ?_
  refine l_sald (i + 1) (by omega) (by omega) hL dL_law_1101 ?_
  refine l_aload rfl dL_law_1102 rfl ?_
  refine l_iload rfl dL_law_1103 rfl ?_
  refine l_iconst dL_law_1104 ?_
  refine l_iadd dL_law_1105 ?_
  refine l_sald (i + 2) (by omega) (by omega) hL dL_law_1106 ?_
  refine lc_142 dL_law_1107 (by decide) (Nat.le_of_ble_eq_true rfl) (sp_Model_shown M1 B ((xs (i + 1)).toInt) ((xs (i + 2)).toInt) (zrng_toInt _) (zrng_toInt _) hR1) (fun r2 M2 q2 => ?_)
  obtain ⟨e2, f2, c2⟩ := q2
  subst e2
  refine l_same (tgt := 1174) dL_law_1110 (by decide) ?_
  exact k M2 _ (c1.frR f2) c2
theorem law_c31 {L : Nat} {xs : Nat → Int32} {i : Nat} {M : zMem} {B : Nat → Nat → Nat} (hL : L ≤ 2560) (hi : i + 5 ≤ L) (hC : abC M B) (hR : abR M B) (k : ∀ (M : zMem) (B : Nat → Nat → Nat), abC M B → abR M B → lV L xs 1174 [some (zr 75), some (zr 0), some (zr 9), some (zi (i : Int))] [] M) : lV L xs 1115 [some (zr 75), some (zr 0), some (zr 9), some (zi (i : Int))] [] M := by
  refine l_aload rfl dL_law_1115 rfl ?_
  refine lc_143 dL_law_1116 (by decide) (Nat.le_of_ble_eq_true rfl) (sp_S_groups M B   hC) (fun r1 M1 q1 => ?_)
  obtain ⟨e1, f1, c1⟩ := q1
  subst e1
  have hR1 := hR.frC f1
  refine l_aload rfl dL_law_1119 rfl ?_
  refine lc_146 dL_law_1120 (by decide) (Nat.le_of_ble_eq_true rfl) (sp_Model_groups M1 B   hR1) (fun r2 M2 q2 => ?_)
  obtain ⟨e2, f2, c2⟩ := q2
  subst e2
  refine l_same (tgt := 1174) dL_law_1123 (by decide) ?_
  exact k M2 _ (c1.frR f2) c2
theorem law_c32 {L : Nat} {xs : Nat → Int32} {i : Nat} {M : zMem} {B : Nat → Nat → Nat} (hL : L ≤ 2560) (hi : i + 5 ≤ L) (hC : abC M B) (hR : abR M B) (k : ∀ (M : zMem) (B : Nat → Nat → Nat), abC M B → abR M B → lV L xs 1174 [some (zr 75), some (zr 0), some (zr 9), some (zi (i : Int))] [] M) : lV L xs 1128 [some (zr 75), some (zr 0), some (zr 9), some (zi (i : Int))] [] M := by
  refine l_aload rfl dL_law_1128 rfl ?_
  refine l_aload rfl dL_law_1129 rfl ?_
  refine l_iload rfl dL_law_1130 rfl ?_
  refine l_iconst dL_law_1131 ?_
  refine l_iadd dL_law_1132 ?_
  refine l_sald (i + 1) (by omega) (by omega) hL dL_law_1133 ?_
  refine lc_147 dL_law_1134 (by decide) (Nat.le_of_ble_eq_true rfl) (sp_S_first M B ((xs (i + 1)).toInt) (zrng_toInt _) hC) (fun r1 M1 q1 => ?_)
  obtain ⟨e1, f1, c1⟩ := q1
  subst e1
  have hR1 := hR.frC f1
  refine l_aload rfl dL_law_1137 rfl ?_
  refine l_aload rfl dL_law_1138 rfl ?_
  refine l_iload rfl dL_law_1139 rfl ?_
  refine l_iconst dL_law_1140 ?_
  refine l_iadd dL_law_1141 ?_
  refine l_sald (i + 1) (by omega) (by omega) hL dL_law_1142 ?_
  refine lc_150 dL_law_1143 (by decide) (Nat.le_of_ble_eq_true rfl) (sp_Model_first M1 B ((xs (i + 1)).toInt) (zrng_toInt _) hR1) (fun r2 M2 q2 => ?_)
  obtain ⟨e2, f2, c2⟩ := q2
  subst e2
  refine l_same (tgt := 1174) dL_law_1146 (by decide) ?_
  exact k M2 _ (c1.frR f2) c2
theorem law_c33 {L : Nat} {xs : Nat → Int32} {i : Nat} {M : zMem} {B : Nat → Nat → Nat} (hL : L ≤ 2560) (hi : i + 5 ≤ L) (hC : abC M B) (hR : abR M B) (k : ∀ (M : zMem) (B : Nat → Nat → Nat), abC M B → abR M B → lV L xs 1174 [some (zr 75), some (zr 0), some (zr 9), some (zi (i : Int))] [] M) : lV L xs 1151 [some (zr 75), some (zr 0), some (zr 9), some (zi (i : Int))] [] M := by
  refine l_aload rfl dL_law_1151 rfl ?_
  refine l_aload rfl dL_law_1152 rfl ?_
  refine l_iload rfl dL_law_1153 rfl ?_
  refine l_iconst dL_law_1154 ?_
  refine l_iadd dL_law_1155 ?_
  refine l_sald (i + 1) (by omega) (by omega) hL dL_law_1156 ?_
  refine lc_151 dL_law_1157 (by decide) (Nat.le_of_ble_eq_true rfl) (sp_S_count M B ((xs (i + 1)).toInt) (zrng_toInt _) hC) (fun r1 M1 q1 => ?_)
  obtain ⟨e1, f1, c1⟩ := q1
  subst e1
  have hR1 := hR.frC f1
  refine l_aload rfl dL_law_1160 rfl ?_
  refine l_aload rfl dL_law_1161 rfl ?_
  refine l_iload rfl dL_law_1162 rfl ?_
  refine l_iconst dL_law_1163 ?_
  refine l_iadd dL_law_1164 ?_
  refine l_sald (i + 1) (by omega) (by omega) hL dL_law_1165 ?_
  refine lc_154 dL_law_1166 (by decide) (Nat.le_of_ble_eq_true rfl) (sp_Model_count M1 B ((xs (i + 1)).toInt) (zrng_toInt _) hR1) (fun r2 M2 q2 => ?_)
  obtain ⟨e2, f2, c2⟩ := q2
  subst e2
  refine l_same (tgt := 1174) dL_law_1169 (by decide) ?_
  exact k M2 _ (c1.frR f2) c2
theorem law_loop {L : Nat} {xs : Nat → Int32} (hL : L ≤ 2560) : ∀ (n i : Nat) (M : zMem) (B : Nat → Nat → Nat), i ≤ L + 5 → L < i + n → abC M B → abR M B → lV L xs 18 [some (zr 75), some (zr 0), some (zr 9), some (zi (i : Int))] [] M := by
  intro n
  induction n with
  | zero =>
    intro i M B h1 h2 hC hR
    refine l_iload rfl dL_law_18 rfl ?_
    refine l_aload rfl dL_law_19 rfl ?_
    refine l_slen dL_law_20 ?_
    refine l_iconst dL_law_21 ?_
    refine l_isub dL_law_22 ?_
    refine l_gt (tgt := 1180) (by omega) (by omega) dL_law_23 (by decide) (fun z => ?_) (fun z => absurd z (by omega))
    refine l_iconst dL_law_1180 ?_
    exact l_ret dL_law_1181
  | succ n ih =>
    intro i M B h1 h2 hC hR
    refine l_iload rfl dL_law_18 rfl ?_
    refine l_aload rfl dL_law_19 rfl ?_
    refine l_slen dL_law_20 ?_
    refine l_iconst dL_law_21 ?_
    refine l_isub dL_law_22 ?_
    refine l_gt (tgt := 1180) (by omega) (by omega) dL_law_23 (by decide) (fun z => ?_) (fun z => ?_)
    · refine l_iconst dL_law_1180 ?_
      exact l_ret dL_law_1181
    · have hi : i + 5 ≤ L := by omega
      have k : ∀ (M : zMem) (B : Nat → Nat → Nat), abC M B → abR M B → lV L xs 1174 [some (zr 75), some (zr 0), some (zr 9), some (zi (i : Int))] [] M := by
        intro M B hC hR
        refine l_iinc dL_law_1174 ?_
        refine l_goto (tgt := 18) dL_law_1177 (by decide) ?_
        exact ih (i + 5) M B (by omega) (by omega) hC hR
      refine l_aload rfl dL_law_26 rfl ?_
      refine l_iload rfl dL_law_27 rfl ?_
      refine l_sald i rfl (by omega) hL dL_law_28 ?_
      refine l_bipush dL_law_29 (by decide) ?_
      refine l_iand dL_law_31 ?_
      have hv : zrng (zAnd (xs i).toInt 63) := zrng_toInt _
      generalize zAnd (xs i).toInt 63 = v at hv ⊢
      rcases (show v = 0 ∨ v = 1 ∨ v = 2 ∨ v = 3 ∨ v = 4 ∨ v = 5 ∨ v = 6 ∨ v = 7 ∨ v = 8 ∨ v = 9 ∨ v = 10 ∨ v = 11 ∨ v = 12 ∨ v = 13 ∨ v = 14 ∨ v = 15 ∨ v = 16 ∨ v = 17 ∨ v = 18 ∨ v = 19 ∨ v = 20 ∨ v = 21 ∨ v = 22 ∨ v = 23 ∨ v = 24 ∨ v = 25 ∨ v = 26 ∨ v = 27 ∨ v = 28 ∨ v = 29 ∨ v = 30 ∨ v = 31 ∨ v = 32 ∨ v = 33 ∨ (v < 0 ∨ 33 < v) from by omega) with h | h | h | h | h | h | h | h | h | h | h | h | h | h | h | h | h | h | h | h | h | h | h | h | h | h | h | h | h | h | h | h | h | h | h
      · refine l_swIn (tgt := 184) 0 hv (by omega) dL_law_32 (by decide) rfl (by decide) ?_
        exact law_c0 hL hi hC hR k
      · refine l_swIn (tgt := 217) 1 hv (by omega) dL_law_32 (by decide) rfl (by decide) ?_
        exact law_c1 hL hi hC hR k
      · refine l_swIn (tgt := 266) 2 hv (by omega) dL_law_32 (by decide) rfl (by decide) ?_
        exact law_c2 hL hi hC hR k
      · refine l_swIn (tgt := 299) 3 hv (by omega) dL_law_32 (by decide) rfl (by decide) ?_
        exact law_c3 hL hi hC hR k
      · refine l_swIn (tgt := 312) 4 hv (by omega) dL_law_32 (by decide) rfl (by decide) ?_
        exact law_c4 hL hi hC hR k
      · refine l_swIn (tgt := 361) 5 hv (by omega) dL_law_32 (by decide) rfl (by decide) ?_
        exact law_c5 hL hi hC hR k
      · refine l_swIn (tgt := 394) 6 hv (by omega) dL_law_32 (by decide) rfl (by decide) ?_
        exact law_c6 hL hi hC hR k
      · refine l_swIn (tgt := 427) 7 hv (by omega) dL_law_32 (by decide) rfl (by decide) ?_
        exact law_c7 hL hi hC hR k
      · refine l_swIn (tgt := 460) 8 hv (by omega) dL_law_32 (by decide) rfl (by decide) ?_
        exact law_c8 hL hi hC hR k
      · refine l_swIn (tgt := 493) 9 hv (by omega) dL_law_32 (by decide) rfl (by decide) ?_
        exact law_c9 hL hi hC hR k
      · refine l_swIn (tgt := 516) 10 hv (by omega) dL_law_32 (by decide) rfl (by decide) ?_
        exact law_c10 hL hi hC hR k
      · refine l_swIn (tgt := 549) 11 hv (by omega) dL_law_32 (by decide) rfl (by decide) ?_
        exact law_c11 hL hi hC hR k
      · refine l_swIn (tgt := 592) 12 hv (by omega) dL_law_32 (by decide) rfl (by decide) ?_
        exact law_c12 hL hi hC hR k
      · refine l_swIn (tgt := 645) 13 hv (by omega) dL_law_32 (by decide) rfl (by decide) ?_
        exact law_c13 hL hi hC hR k
      · refine l_swIn (tgt := 668) 14 hv (by omega) dL_law_32 (by decide) rfl (by decide) ?_
        exact law_c14 hL hi hC hR k
      · refine l_swIn (tgt := 691) 15 hv (by omega) dL_law_32 (by decide) rfl (by decide) ?_
        exact law_c15 hL hi hC hR k
      · refine l_swIn (tgt := 724) 16 hv (by omega) dL_law_32 (by decide) rfl (by decide) ?_
        exact law_c16 hL hi hC hR k
      · refine l_swIn (tgt := 767) 17 hv (by omega) dL_law_32 (by decide) rfl (by decide) ?_
        exact law_c17 hL hi hC hR k
      · refine l_swIn (tgt := 800) 18 hv (by omega) dL_law_32 (by decide) rfl (by decide) ?_
        exact law_c18 hL hi hC hR k
      · refine l_swIn (tgt := 833) 19 hv (by omega) dL_law_32 (by decide) rfl (by decide) ?_
        exact law_c19 hL hi hC hR k
      · refine l_swIn (tgt := 866) 20 hv (by omega) dL_law_32 (by decide) rfl (by decide) ?_
        exact law_c20 hL hi hC hR k
      · refine l_swIn (tgt := 915) 21 hv (by omega) dL_law_32 (by decide) rfl (by decide) ?_
        exact law_c21 hL hi hC hR k
      · refine l_swIn (tgt := 948) 22 hv (by omega) dL_law_32 (by decide) rfl (by decide) ?_
        exact law_c22 hL hi hC hR k
      · refine l_swIn (tgt := 961) 23 hv (by omega) dL_law_32 (by decide) rfl (by decide) ?_
        exact law_c23 hL hi hC hR k
      · refine l_swIn (tgt := 974) 24 hv (by omega) dL_law_32 (by decide) rfl (by decide) ?_
        exact law_c24 hL hi hC hR k
      · refine l_swIn (tgt := 987) 25 hv (by omega) dL_law_32 (by decide) rfl (by decide) ?_
        exact law_c25 hL hi hC hR k
      · refine l_swIn (tgt := 1010) 26 hv (by omega) dL_law_32 (by decide) rfl (by decide) ?_
        exact law_c26 hL hi hC hR k
      · refine l_swIn (tgt := 1023) 27 hv (by omega) dL_law_32 (by decide) rfl (by decide) ?_
        exact law_c27 hL hi hC hR k
      · refine l_swIn (tgt := 1036) 28 hv (by omega) dL_law_32 (by decide) rfl (by decide) ?_
        exact law_c28 hL hi hC hR k
      · refine l_swIn (tgt := 1059) 29 hv (by omega) dL_law_32 (by decide) rfl (by decide) ?_
        exact law_c29 hL hi hC hR k
      · refine l_swIn (tgt := 1082) 30 hv (by omega) dL_law_32 (by decide) rfl (by decide) ?_
        exact law_c30 hL hi hC hR k
      · refine l_swIn (tgt := 1115) 31 hv (by omega) dL_law_32 (by decide) rfl (by decide) ?_
        exact law_c31 hL hi hC hR k
      · refine l_swIn (tgt := 1128) 32 hv (by omega) dL_law_32 (by decide) rfl (by decide) ?_
        exact law_c32 hL hi hC hR k
      · refine l_swIn (tgt := 1151) 33 hv (by omega) dL_law_32 (by decide) rfl (by decide) ?_
        exact law_c33 hL hi hC hR k
      · refine l_swOut (tgt := 1174) hv dL_law_32 (by omega) (by decide) ?_
        exact k M B hC hR
