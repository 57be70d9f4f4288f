/-! the words of the law's own methods -/
theorem ye_create : YE mL_create hL_create 3 := ⟨GW_t (i := 592) (by decide +kernel) rfl, GW_t (i := 0) (by decide +kernel) rfl, ⟨by decide, by decide⟩, by decide +kernel, by decide, GW_t (i := 591) (by decide +kernel) rfl⟩
theorem ml_LL_79 : Cond.methodLink RL 79 yL_create ∈ GW := GW_t (i := 590) (by decide +kernel) rfl
theorem ye_grow : YE mL_grow hL_grow 4 := ⟨GW_t (i := 624) (by decide +kernel) rfl, GW_t (i := 0) (by decide +kernel) rfl, ⟨by decide, by decide⟩, by decide +kernel, by decide, GW_t (i := 623) (by decide +kernel) rfl⟩
theorem ml_LL_88 : Cond.methodLink RL 88 yL_grow ∈ GW := GW_t (i := 622) (by decide +kernel) rfl
theorem ye_cut : YE mL_cut hL_cut 4 := ⟨GW_t (i := 657) (by decide +kernel) rfl, GW_t (i := 0) (by decide +kernel) rfl, ⟨by decide, by decide⟩, by decide +kernel, by decide, GW_t (i := 656) (by decide +kernel) rfl⟩
theorem ml_LL_92 : Cond.methodLink RL 92 yL_cut ∈ GW := GW_t (i := 655) (by decide +kernel) rfl
theorem ye_delete : YE mL_delete hL_delete 3 := ⟨GW_t (i := 668) (by decide +kernel) rfl, GW_t (i := 0) (by decide +kernel) rfl, ⟨by decide, by decide⟩, by decide +kernel, by decide, GW_t (i := 667) (by decide +kernel) rfl⟩
theorem ml_LL_95 : Cond.methodLink RL 95 yL_delete ∈ GW := GW_t (i := 666) (by decide +kernel) rfl
theorem ye_spoil : YE mL_spoil hL_spoil 3 := ⟨GW_t (i := 679) (by decide +kernel) rfl, GW_t (i := 0) (by decide +kernel) rfl, ⟨by decide, by decide⟩, by decide +kernel, by decide, GW_t (i := 678) (by decide +kernel) rfl⟩
theorem ml_LL_98 : Cond.methodLink RL 98 yL_spoil ∈ GW := GW_t (i := 677) (by decide +kernel) rfl
theorem ye_heal : YE mL_heal hL_heal 3 := ⟨GW_t (i := 712) (by decide +kernel) rfl, GW_t (i := 0) (by decide +kernel) rfl, ⟨by decide, by decide⟩, by decide +kernel, by decide, GW_t (i := 711) (by decide +kernel) rfl⟩
theorem ml_LL_101 : Cond.methodLink RL 101 yL_heal ∈ GW := GW_t (i := 710) (by decide +kernel) rfl
theorem ye_set : YE mL_set hL_set 3 := ⟨GW_t (i := 729) (by decide +kernel) rfl, GW_t (i := 0) (by decide +kernel) rfl, ⟨by decide, by decide⟩, by decide +kernel, by decide, GW_t (i := 728) (by decide +kernel) rfl⟩
theorem ml_LL_108 : Cond.methodLink RL 108 yL_set ∈ GW := GW_t (i := 727) (by decide +kernel) rfl
theorem ye_append : YE mL_append hL_append 3 := ⟨GW_t (i := 736) (by decide +kernel) rfl, GW_t (i := 0) (by decide +kernel) rfl, ⟨by decide, by decide⟩, by decide +kernel, by decide, GW_t (i := 735) (by decide +kernel) rfl⟩
theorem ml_LL_111 : Cond.methodLink RL 111 yL_append ∈ GW := GW_t (i := 734) (by decide +kernel) rfl
theorem ye_run : YE mL_run hL_run 2 := ⟨GW_t (i := 752) (by decide +kernel) rfl, GW_t (i := 0) (by decide +kernel) rfl, ⟨by decide, by decide⟩, by decide +kernel, by decide, GW_t (i := 751) (by decide +kernel) rfl⟩
theorem ml_LL_122 : Cond.methodLink RL 122 yL_run ∈ GW := GW_t (i := 750) (by decide +kernel) rfl
theorem ye_keep : YE mL_keep hL_keep 3 := ⟨GW_t (i := 774) (by decide +kernel) rfl, GW_t (i := 0) (by decide +kernel) rfl, ⟨by decide, by decide⟩, by decide +kernel, by decide, GW_t (i := 773) (by decide +kernel) rfl⟩
theorem ml_LL_126 : Cond.methodLink RL 126 yL_keep ∈ GW := GW_t (i := 772) (by decide +kernel) rfl
theorem ye_goBack : YE mL_goBack hL_goBack 3 := ⟨GW_t (i := 782) (by decide +kernel) rfl, GW_t (i := 0) (by decide +kernel) rfl, ⟨by decide, by decide⟩, by decide +kernel, by decide, GW_t (i := 781) (by decide +kernel) rfl⟩
theorem ml_LL_129 : Cond.methodLink RL 129 yL_goBack ∈ GW := GW_t (i := 780) (by decide +kernel) rfl
theorem ye_undo : YE mL_undo hL_undo 2 := ⟨GW_t (i := 790) (by decide +kernel) rfl, GW_t (i := 0) (by decide +kernel) rfl, ⟨by decide, by decide⟩, by decide +kernel, by decide, GW_t (i := 789) (by decide +kernel) rfl⟩
theorem ml_LL_132 : Cond.methodLink RL 132 yL_undo ∈ GW := GW_t (i := 788) (by decide +kernel) rfl
theorem ye_fileOf : YE mL_fileOf hL_fileOf 4 := ⟨GW_t (i := 802) (by decide +kernel) rfl, GW_t (i := 0) (by decide +kernel) rfl, ⟨by decide, by decide⟩, by decide +kernel, by decide, GW_t (i := 801) (by decide +kernel) rfl⟩
theorem ml_LL_135 : Cond.methodLink RL 135 yL_fileOf ∈ GW := GW_t (i := 800) (by decide +kernel) rfl
theorem ye_place : YE mL_place hL_place 4 := ⟨GW_t (i := 809) (by decide +kernel) rfl, GW_t (i := 0) (by decide +kernel) rfl, ⟨by decide, by decide⟩, by decide +kernel, by decide, GW_t (i := 808) (by decide +kernel) rfl⟩
theorem ml_LL_138 : Cond.methodLink RL 138 yL_place ∈ GW := GW_t (i := 807) (by decide +kernel) rfl
theorem ye_blockOf : YE mL_blockOf hL_blockOf 4 := ⟨GW_t (i := 817) (by decide +kernel) rfl, GW_t (i := 0) (by decide +kernel) rfl, ⟨by decide, by decide⟩, by decide +kernel, by decide, GW_t (i := 816) (by decide +kernel) rfl⟩
theorem ml_LL_141 : Cond.methodLink RL 141 yL_blockOf ∈ GW := GW_t (i := 815) (by decide +kernel) rfl
theorem ye_count : YE mL_count hL_count 3 := ⟨GW_t (i := 824) (by decide +kernel) rfl, GW_t (i := 0) (by decide +kernel) rfl, ⟨by decide, by decide⟩, by decide +kernel, by decide, GW_t (i := 823) (by decide +kernel) rfl⟩
theorem ml_LL_144 : Cond.methodLink RL 144 yL_count ∈ GW := GW_t (i := 822) (by decide +kernel) rfl
theorem ye_ifPlaced : YE mL_ifPlaced hL_ifPlaced 3 := ⟨GW_t (i := 828) (by decide +kernel) rfl, GW_t (i := 0) (by decide +kernel) rfl, ⟨by decide, by decide⟩, by decide +kernel, by decide, GW_t (i := 827) (by decide +kernel) rfl⟩
theorem ml_LL_147 : Cond.methodLink RL 147 yL_ifPlaced ∈ GW := GW_t (i := 826) (by decide +kernel) rfl
theorem ye_ifGrown : YE mL_ifGrown hL_ifGrown 4 := ⟨GW_t (i := 835) (by decide +kernel) rfl, GW_t (i := 0) (by decide +kernel) rfl, ⟨by decide, by decide⟩, by decide +kernel, by decide, GW_t (i := 834) (by decide +kernel) rfl⟩
theorem ml_LL_150 : Cond.methodLink RL 150 yL_ifGrown ∈ GW := GW_t (i := 833) (by decide +kernel) rfl
theorem ye_fewest : YE mL_fewest hL_fewest 3 := ⟨GW_t (i := 842) (by decide +kernel) rfl, GW_t (i := 0) (by decide +kernel) rfl, ⟨by decide, by decide⟩, by decide +kernel, by decide, GW_t (i := 841) (by decide +kernel) rfl⟩
theorem ml_LL_157 : Cond.methodLink RL 157 yL_fewest ∈ GW := GW_t (i := 840) (by decide +kernel) rfl
