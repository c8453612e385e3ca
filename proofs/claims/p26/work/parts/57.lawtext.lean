/-! the law: its numbers, its texts -/
def tx35 : List Int32 := [32]
theorem len_tx35 : tx35.length = 1 := rfl
theorem LB_tx35 : LB tx35 := LB_cons (by decide) (LB_nil)
def tx48 : List Int32 := [32, 52, 48, 45, 115, 97, 99, 107, 32, 116]
theorem len_tx48 : tx48.length = 10 := rfl
theorem LB_tx48 : LB tx48 := LB_cons (by decide) (LB_cons (by decide) (LB_cons (by decide) (LB_cons (by decide) (LB_cons (by decide) (LB_cons (by decide) (LB_cons (by decide) (LB_cons (by decide) (LB_cons (by decide) (LB_cons (by decide) (LB_nil))))))))))
def tx50 : List Int32 := [32, 109, 105, 110, 40, 115, 116, 111, 99, 107, 32, 100]
theorem len_tx50 : tx50.length = 12 := rfl
theorem LB_tx50 : LB tx50 := LB_cons (by decide) (LB_cons (by decide) (LB_cons (by decide) (LB_cons (by decide) (LB_cons (by decide) (LB_cons (by decide) (LB_cons (by decide) (LB_cons (by decide) (LB_cons (by decide) (LB_cons (by decide) (LB_cons (by decide) (LB_cons (by decide) (LB_nil))))))))))))
def tx52 : List Int32 := [44]
theorem len_tx52 : tx52.length = 1 := rfl
theorem LB_tx52 : LB tx52 := LB_cons (by decide) (LB_nil)
def tx54 : List Int32 := [41]
theorem len_tx54 : tx54.length = 1 := rfl
theorem LB_tx54 : LB tx54 := LB_cons (by decide) (LB_nil)
def tx56 : List Int32 := [32, 100, 97, 121, 43]
theorem len_tx56 : tx56.length = 5 := rfl
theorem LB_tx56 : LB tx56 := LB_cons (by decide) (LB_cons (by decide) (LB_cons (by decide) (LB_cons (by decide) (LB_cons (by decide) (LB_nil)))))
def tx58 : List Int32 := [32, 112, 108, 97, 99, 101, 32, 116]
theorem len_tx58 : tx58.length = 8 := rfl
theorem LB_tx58 : LB tx58 := LB_cons (by decide) (LB_cons (by decide) (LB_cons (by decide) (LB_cons (by decide) (LB_cons (by decide) (LB_cons (by decide) (LB_cons (by decide) (LB_cons (by decide) (LB_nil))))))))
def tx60 : List Int32 := [42]
theorem len_tx60 : tx60.length = 1 := rfl
theorem LB_tx60 : LB tx60 := LB_cons (by decide) (LB_nil)
def tx62 : List Int32 := [32, 111, 117, 116, 32, 115]
theorem len_tx62 : tx62.length = 6 := rfl
theorem LB_tx62 : LB tx62 := LB_cons (by decide) (LB_cons (by decide) (LB_cons (by decide) (LB_cons (by decide) (LB_cons (by decide) (LB_cons (by decide) (LB_nil))))))
def tx64 : List Int32 := [47]
theorem len_tx64 : tx64.length = 1 := rfl
theorem LB_tx64 : LB tx64 := LB_cons (by decide) (LB_nil)
def tx66 : List Int32 := [32, 115, 110, 111, 119, 32, 98]
theorem len_tx66 : tx66.length = 7 := rfl
theorem LB_tx66 : LB tx66 := LB_cons (by decide) (LB_cons (by decide) (LB_cons (by decide) (LB_cons (by decide) (LB_cons (by decide) (LB_cons (by decide) (LB_cons (by decide) (LB_nil)))))))
def tx68 : List Int32 := [47, 57, 32, 45, 32]
theorem len_tx68 : tx68.length = 5 := rfl
theorem LB_tx68 : LB tx68 := LB_cons (by decide) (LB_cons (by decide) (LB_cons (by decide) (LB_cons (by decide) (LB_cons (by decide) (LB_nil)))))
def tx70 : List Int32 := [32, 109, 97, 120, 40, 98, 114, 105, 100, 103, 101, 32, 99]
theorem len_tx70 : tx70.length = 13 := rfl
theorem LB_tx70 : LB tx70 := LB_cons (by decide) (LB_cons (by decide) (LB_cons (by decide) (LB_cons (by decide) (LB_cons (by decide) (LB_cons (by decide) (LB_cons (by decide) (LB_cons (by decide) (LB_cons (by decide) (LB_cons (by decide) (LB_cons (by decide) (LB_cons (by decide) (LB_cons (by decide) (LB_nil)))))))))))))
def tx72 : List Int32 := [44, 32]
theorem len_tx72 : tx72.length = 2 := rfl
theorem LB_tx72 : LB tx72 := LB_cons (by decide) (LB_cons (by decide) (LB_nil))
def tx74 : List Int32 := []
theorem len_tx74 : tx74.length = 0 := rfl
theorem LB_tx74 : LB tx74 := LB_nil
def tx76 : List Int32 := [32, 119, 104, 101, 110, 32, 100, 97, 121, 62]
theorem len_tx76 : tx76.length = 10 := rfl
theorem LB_tx76 : LB tx76 := LB_cons (by decide) (LB_cons (by decide) (LB_cons (by decide) (LB_cons (by decide) (LB_cons (by decide) (LB_cons (by decide) (LB_cons (by decide) (LB_cons (by decide) (LB_cons (by decide) (LB_cons (by decide) (LB_nil))))))))))
def tx78 : List Int32 := [32, 119, 104, 101, 110, 32, 115, 97, 99, 107, 32, 116]
theorem len_tx78 : tx78.length = 12 := rfl
theorem LB_tx78 : LB tx78 := LB_cons (by decide) (LB_cons (by decide) (LB_cons (by decide) (LB_cons (by decide) (LB_cons (by decide) (LB_cons (by decide) (LB_cons (by decide) (LB_cons (by decide) (LB_cons (by decide) (LB_cons (by decide) (LB_cons (by decide) (LB_cons (by decide) (LB_nil))))))))))))
def tx80 : List Int32 := [60]
theorem len_tx80 : tx80.length = 1 := rfl
theorem LB_tx80 : LB tx80 := LB_cons (by decide) (LB_nil)
def tx82 : List Int32 := [42, 51]
theorem len_tx82 : tx82.length = 2 := rfl
theorem LB_tx82 : LB tx82 := LB_cons (by decide) (LB_cons (by decide) (LB_nil))
def tx84 : List Int32 := [32, 119, 104, 101, 110, 32, 115, 116, 97, 110, 100, 105, 110, 103, 32, 115]
theorem len_tx84 : tx84.length = 16 := rfl
theorem LB_tx84 : LB tx84 := LB_cons (by decide) (LB_cons (by decide) (LB_cons (by decide) (LB_cons (by decide) (LB_cons (by decide) (LB_cons (by decide) (LB_cons (by decide) (LB_cons (by decide) (LB_cons (by decide) (LB_cons (by decide) (LB_cons (by decide) (LB_cons (by decide) (LB_cons (by decide) (LB_cons (by decide) (LB_cons (by decide) (LB_cons (by decide) (LB_nil))))))))))))))))
def tx86 : List Int32 := [32, 119, 104, 101, 110, 32, 110, 111, 116, 32, 115, 116, 97, 110, 100, 105, 110, 103, 32, 115]
theorem len_tx86 : tx86.length = 20 := rfl
theorem LB_tx86 : LB tx86 := LB_cons (by decide) (LB_cons (by decide) (LB_cons (by decide) (LB_cons (by decide) (LB_cons (by decide) (LB_cons (by decide) (LB_cons (by decide) (LB_cons (by decide) (LB_cons (by decide) (LB_cons (by decide) (LB_cons (by decide) (LB_cons (by decide) (LB_cons (by decide) (LB_cons (by decide) (LB_cons (by decide) (LB_cons (by decide) (LB_cons (by decide) (LB_cons (by decide) (LB_cons (by decide) (LB_cons (by decide) (LB_nil))))))))))))))))))))
def tx88 : List Int32 := [32, 111, 114, 32, 111, 117, 116, 32, 115]
theorem len_tx88 : tx88.length = 9 := rfl
theorem LB_tx88 : LB tx88 := LB_cons (by decide) (LB_cons (by decide) (LB_cons (by decide) (LB_cons (by decide) (LB_cons (by decide) (LB_cons (by decide) (LB_cons (by decide) (LB_cons (by decide) (LB_cons (by decide) (LB_nil)))))))))
def tx90 : List Int32 := [62, 57, 42]
theorem len_tx90 : tx90.length = 3 := rfl
theorem LB_tx90 : LB tx90 := LB_cons (by decide) (LB_cons (by decide) (LB_cons (by decide) (LB_nil)))
def tx92 : List Int32 := [32, 119, 104, 101, 110, 32, 107, 110, 111, 119, 110, 32, 99]
theorem len_tx92 : tx92.length = 13 := rfl
theorem LB_tx92 : LB tx92 := LB_cons (by decide) (LB_cons (by decide) (LB_cons (by decide) (LB_cons (by decide) (LB_cons (by decide) (LB_cons (by decide) (LB_cons (by decide) (LB_cons (by decide) (LB_cons (by decide) (LB_cons (by decide) (LB_cons (by decide) (LB_cons (by decide) (LB_cons (by decide) (LB_nil)))))))))))))
def tx94 : List Int32 := [32, 97, 110, 100, 32, 98, 114, 105, 100, 103, 101, 32, 99]
theorem len_tx94 : tx94.length = 13 := rfl
theorem LB_tx94 : LB tx94 := LB_cons (by decide) (LB_cons (by decide) (LB_cons (by decide) (LB_cons (by decide) (LB_cons (by decide) (LB_cons (by decide) (LB_cons (by decide) (LB_cons (by decide) (LB_cons (by decide) (LB_cons (by decide) (LB_cons (by decide) (LB_cons (by decide) (LB_cons (by decide) (LB_nil)))))))))))))
def tx96 : List Int32 := [62, 61]
theorem len_tx96 : tx96.length = 2 := rfl
theorem LB_tx96 : LB tx96 := LB_cons (by decide) (LB_cons (by decide) (LB_nil))
def tx98 : List Int32 := [32, 119, 104, 101, 110, 32, 110, 111, 116, 32, 107, 110, 111, 119, 110, 32, 99]
theorem len_tx98 : tx98.length = 17 := rfl
theorem LB_tx98 : LB tx98 := LB_cons (by decide) (LB_cons (by decide) (LB_cons (by decide) (LB_cons (by decide) (LB_cons (by decide) (LB_cons (by decide) (LB_cons (by decide) (LB_cons (by decide) (LB_cons (by decide) (LB_cons (by decide) (LB_cons (by decide) (LB_cons (by decide) (LB_cons (by decide) (LB_cons (by decide) (LB_cons (by decide) (LB_cons (by decide) (LB_cons (by decide) (LB_nil)))))))))))))))))
def tx100 : List Int32 := [32, 97, 110, 100, 32, 100, 97, 121, 45, 100, 97, 121, 47, 51, 42, 51, 61, 48]
theorem len_tx100 : tx100.length = 18 := rfl
theorem LB_tx100 : LB tx100 := LB_cons (by decide) (LB_cons (by decide) (LB_cons (by decide) (LB_cons (by decide) (LB_cons (by decide) (LB_cons (by decide) (LB_cons (by decide) (LB_cons (by decide) (LB_cons (by decide) (LB_cons (by decide) (LB_cons (by decide) (LB_cons (by decide) (LB_cons (by decide) (LB_cons (by decide) (LB_cons (by decide) (LB_cons (by decide) (LB_cons (by decide) (LB_cons (by decide) (LB_nil))))))))))))))))))
def tx102 : List Int32 := [32, 119, 104, 101, 110, 32, 91, 104, 101, 114, 101, 32, 116]
theorem len_tx102 : tx102.length = 13 := rfl
theorem LB_tx102 : LB tx102 := LB_cons (by decide) (LB_cons (by decide) (LB_cons (by decide) (LB_cons (by decide) (LB_cons (by decide) (LB_cons (by decide) (LB_cons (by decide) (LB_cons (by decide) (LB_cons (by decide) (LB_cons (by decide) (LB_cons (by decide) (LB_cons (by decide) (LB_cons (by decide) (LB_nil)))))))))))))
def tx104 : List Int32 := [32, 111, 114, 32]
theorem len_tx104 : tx104.length = 4 := rfl
theorem LB_tx104 : LB tx104 := LB_cons (by decide) (LB_cons (by decide) (LB_cons (by decide) (LB_cons (by decide) (LB_nil))))
def tx106 : List Int32 := [62, 51, 93, 97, 110, 100, 32, 119, 97, 114, 109, 62, 61, 50, 42]
theorem len_tx106 : tx106.length = 15 := rfl
theorem LB_tx106 : LB tx106 := LB_cons (by decide) (LB_cons (by decide) (LB_cons (by decide) (LB_cons (by decide) (LB_cons (by decide) (LB_cons (by decide) (LB_cons (by decide) (LB_cons (by decide) (LB_cons (by decide) (LB_cons (by decide) (LB_cons (by decide) (LB_cons (by decide) (LB_cons (by decide) (LB_cons (by decide) (LB_cons (by decide) (LB_nil)))))))))))))))
def tx108 : List Int32 := [32, 119, 104, 101, 110, 32, 110, 111, 116, 32, 112, 108, 97, 99, 101, 32, 116]
theorem len_tx108 : tx108.length = 17 := rfl
theorem LB_tx108 : LB tx108 := LB_cons (by decide) (LB_cons (by decide) (LB_cons (by decide) (LB_cons (by decide) (LB_cons (by decide) (LB_cons (by decide) (LB_cons (by decide) (LB_cons (by decide) (LB_cons (by decide) (LB_cons (by decide) (LB_cons (by decide) (LB_cons (by decide) (LB_cons (by decide) (LB_cons (by decide) (LB_cons (by decide) (LB_cons (by decide) (LB_cons (by decide) (LB_nil)))))))))))))))))
def tx110 : List Int32 := [61]
theorem len_tx110 : tx110.length = 1 := rfl
theorem LB_tx110 : LB tx110 := LB_cons (by decide) (LB_nil)
def tx112 : List Int32 := [32, 119, 104, 101, 110, 32]
theorem len_tx112 : tx112.length = 6 := rfl
theorem LB_tx112 : LB tx112 := LB_cons (by decide) (LB_cons (by decide) (LB_cons (by decide) (LB_cons (by decide) (LB_cons (by decide) (LB_cons (by decide) (LB_nil))))))
def tx114 : List Int32 := [60, 61]
theorem len_tx114 : tx114.length = 2 := rfl
theorem LB_tx114 : LB tx114 := LB_cons (by decide) (LB_cons (by decide) (LB_nil))
def tx135 : List Int32 := [98, 97, 110, 100, 32, 98]
theorem len_tx135 : tx135.length = 6 := rfl
theorem LB_tx135 : LB tx135 := LB_cons (by decide) (LB_cons (by decide) (LB_cons (by decide) (LB_cons (by decide) (LB_cons (by decide) (LB_cons (by decide) (LB_nil))))))
def tx137 : List Int32 := [32, 104, 101, 105, 103, 104, 116, 32]
theorem len_tx137 : tx137.length = 8 := rfl
theorem LB_tx137 : LB tx137 := LB_cons (by decide) (LB_cons (by decide) (LB_cons (by decide) (LB_cons (by decide) (LB_cons (by decide) (LB_cons (by decide) (LB_cons (by decide) (LB_cons (by decide) (LB_nil))))))))
def tx139 : List Int32 := [32, 115, 110, 111, 119, 32]
theorem len_tx139 : tx139.length = 6 := rfl
theorem LB_tx139 : LB tx139 := LB_cons (by decide) (LB_cons (by decide) (LB_cons (by decide) (LB_cons (by decide) (LB_cons (by decide) (LB_cons (by decide) (LB_nil))))))
def tx141 : List Int32 := [59]
theorem len_tx141 : tx141.length = 1 := rfl
theorem LB_tx141 : LB tx141 := LB_cons (by decide) (LB_nil)
def tx143 : List Int32 := [32, 59, 10]
theorem len_tx143 : tx143.length = 3 := rfl
theorem LB_tx143 : LB tx143 := LB_cons (by decide) (LB_cons (by decide) (LB_cons (by decide) (LB_nil)))
def tx148 : List Int32 := [115, 116, 97, 107, 101, 32, 115]
theorem len_tx148 : tx148.length = 7 := rfl
theorem LB_tx148 : LB tx148 := LB_cons (by decide) (LB_cons (by decide) (LB_cons (by decide) (LB_cons (by decide) (LB_cons (by decide) (LB_cons (by decide) (LB_cons (by decide) (LB_nil)))))))
def tx150 : List Int32 := [32, 105, 110, 32, 98]
theorem len_tx150 : tx150.length = 5 := rfl
theorem LB_tx150 : LB tx150 := LB_cons (by decide) (LB_cons (by decide) (LB_cons (by decide) (LB_cons (by decide) (LB_cons (by decide) (LB_nil)))))
def tx152 : List Int32 := [32, 100, 101, 101, 112, 32]
theorem len_tx152 : tx152.length = 6 := rfl
theorem LB_tx152 : LB tx152 := LB_cons (by decide) (LB_cons (by decide) (LB_cons (by decide) (LB_cons (by decide) (LB_cons (by decide) (LB_cons (by decide) (LB_nil))))))
def tx157 : List Int32 := [99, 114, 101, 118, 97, 115, 115, 101, 32, 99]
theorem len_tx157 : tx157.length = 10 := rfl
theorem LB_tx157 : LB tx157 := LB_cons (by decide) (LB_cons (by decide) (LB_cons (by decide) (LB_cons (by decide) (LB_cons (by decide) (LB_cons (by decide) (LB_cons (by decide) (LB_cons (by decide) (LB_cons (by decide) (LB_cons (by decide) (LB_nil))))))))))
def tx159 : List Int32 := [32, 97, 98, 111, 118, 101, 32, 98]
theorem len_tx159 : tx159.length = 8 := rfl
theorem LB_tx159 : LB tx159 := LB_cons (by decide) (LB_cons (by decide) (LB_cons (by decide) (LB_cons (by decide) (LB_cons (by decide) (LB_cons (by decide) (LB_cons (by decide) (LB_cons (by decide) (LB_nil))))))))
def tx161 : List Int32 := [32, 98, 114, 105, 100, 103, 101, 32]
theorem len_tx161 : tx161.length = 8 := rfl
theorem LB_tx161 : LB tx161 := LB_cons (by decide) (LB_cons (by decide) (LB_cons (by decide) (LB_cons (by decide) (LB_cons (by decide) (LB_cons (by decide) (LB_cons (by decide) (LB_cons (by decide) (LB_nil))))))))
def tx166 : List Int32 := [100, 101, 112, 111, 116, 32, 100]
theorem len_tx166 : tx166.length = 7 := rfl
theorem LB_tx166 : LB tx166 := LB_cons (by decide) (LB_cons (by decide) (LB_cons (by decide) (LB_cons (by decide) (LB_cons (by decide) (LB_cons (by decide) (LB_cons (by decide) (LB_nil)))))))
def tx168 : List Int32 := [32, 102, 111, 111, 100, 32]
theorem len_tx168 : tx168.length = 6 := rfl
theorem LB_tx168 : LB tx168 := LB_cons (by decide) (LB_cons (by decide) (LB_cons (by decide) (LB_cons (by decide) (LB_cons (by decide) (LB_cons (by decide) (LB_nil))))))
def tx173 : List Int32 := [116, 101, 97, 109, 32, 116]
theorem len_tx173 : tx173.length = 6 := rfl
theorem LB_tx173 : LB tx173 := LB_cons (by decide) (LB_cons (by decide) (LB_cons (by decide) (LB_cons (by decide) (LB_cons (by decide) (LB_cons (by decide) (LB_nil))))))
def tx175 : List Int32 := [32, 115, 105, 122, 101, 32]
theorem len_tx175 : tx175.length = 6 := rfl
theorem LB_tx175 : LB tx175 := LB_cons (by decide) (LB_cons (by decide) (LB_cons (by decide) (LB_cons (by decide) (LB_cons (by decide) (LB_cons (by decide) (LB_nil))))))
def tx180 : List Int32 := [100, 97, 121, 32]
theorem len_tx180 : tx180.length = 4 := rfl
theorem LB_tx180 : LB tx180 := LB_cons (by decide) (LB_cons (by decide) (LB_cons (by decide) (LB_cons (by decide) (LB_nil))))
def tx182 : List Int32 := [32, 119, 97, 114, 109, 32]
theorem len_tx182 : tx182.length = 6 := rfl
theorem LB_tx182 : LB tx182 := LB_cons (by decide) (LB_cons (by decide) (LB_cons (by decide) (LB_cons (by decide) (LB_cons (by decide) (LB_cons (by decide) (LB_nil))))))
def tx187 : List Int32 := [99, 108, 105, 109, 98, 32, 116]
theorem len_tx187 : tx187.length = 7 := rfl
theorem LB_tx187 : LB tx187 := LB_cons (by decide) (LB_cons (by decide) (LB_cons (by decide) (LB_cons (by decide) (LB_cons (by decide) (LB_cons (by decide) (LB_cons (by decide) (LB_nil)))))))
def tx189 : List Int32 := [100, 101, 115, 99, 101, 110, 100, 32, 116]
theorem len_tx189 : tx189.length = 9 := rfl
theorem LB_tx189 : LB tx189 := LB_cons (by decide) (LB_cons (by decide) (LB_cons (by decide) (LB_cons (by decide) (LB_cons (by decide) (LB_cons (by decide) (LB_cons (by decide) (LB_cons (by decide) (LB_cons (by decide) (LB_nil)))))))))
def tx191 : List Int32 := [112, 114, 111, 98, 101, 32, 99]
theorem len_tx191 : tx191.length = 7 := rfl
theorem LB_tx191 : LB tx191 := LB_cons (by decide) (LB_cons (by decide) (LB_cons (by decide) (LB_cons (by decide) (LB_cons (by decide) (LB_cons (by decide) (LB_cons (by decide) (LB_nil)))))))
def tx193 : List Int32 := [32, 98, 121, 32, 116]
theorem len_tx193 : tx193.length = 5 := rfl
theorem LB_tx193 : LB tx193 := LB_cons (by decide) (LB_cons (by decide) (LB_cons (by decide) (LB_cons (by decide) (LB_cons (by decide) (LB_nil)))))
def tx195 : List Int32 := [102, 105, 108, 108, 32, 116]
theorem len_tx195 : tx195.length = 6 := rfl
theorem LB_tx195 : LB tx195 := LB_cons (by decide) (LB_cons (by decide) (LB_cons (by decide) (LB_cons (by decide) (LB_cons (by decide) (LB_cons (by decide) (LB_nil))))))
def tx197 : List Int32 := [32, 119, 105, 116, 104]
theorem len_tx197 : tx197.length = 5 := rfl
theorem LB_tx197 : LB tx197 := LB_cons (by decide) (LB_cons (by decide) (LB_cons (by decide) (LB_cons (by decide) (LB_cons (by decide) (LB_nil)))))
def tx203 : List Int32 := [100, 114, 105, 108, 108, 32, 115]
theorem len_tx203 : tx203.length = 7 := rfl
theorem LB_tx203 : LB tx203 := LB_cons (by decide) (LB_cons (by decide) (LB_cons (by decide) (LB_cons (by decide) (LB_cons (by decide) (LB_cons (by decide) (LB_cons (by decide) (LB_nil)))))))
def tx208 : List Int32 := [59, 10]
theorem len_tx208 : tx208.length = 2 := rfl
theorem LB_tx208 : LB tx208 := LB_cons (by decide) (LB_cons (by decide) (LB_nil))
/-- the law's constant texts -/
def LsOk (Γ : G9) (ls : Nat → Nat) : Prop := (SF Γ (fun _ U _ => vk_R "GlacierCampLaw" 35 " " (ls 35) U) ∧ StOk Γ (ls 35) tx35) ∧ (SF Γ (fun _ U _ => vk_R "GlacierCampLaw" 48 " 40-sack t" (ls 48) U) ∧ StOk Γ (ls 48) tx48) ∧ (SF Γ (fun _ U _ => vk_R "GlacierCampLaw" 50 " min(stock d" (ls 50) U) ∧ StOk Γ (ls 50) tx50) ∧ (SF Γ (fun _ U _ => vk_R "GlacierCampLaw" 52 "," (ls 52) U) ∧ StOk Γ (ls 52) tx52) ∧ (SF Γ (fun _ U _ => vk_R "GlacierCampLaw" 54 ")" (ls 54) U) ∧ StOk Γ (ls 54) tx54) ∧ (SF Γ (fun _ U _ => vk_R "GlacierCampLaw" 56 " day+" (ls 56) U) ∧ StOk Γ (ls 56) tx56) ∧ (SF Γ (fun _ U _ => vk_R "GlacierCampLaw" 58 " place t" (ls 58) U) ∧ StOk Γ (ls 58) tx58) ∧ (SF Γ (fun _ U _ => vk_R "GlacierCampLaw" 60 "*" (ls 60) U) ∧ StOk Γ (ls 60) tx60) ∧ (SF Γ (fun _ U _ => vk_R "GlacierCampLaw" 62 " out s" (ls 62) U) ∧ StOk Γ (ls 62) tx62) ∧ (SF Γ (fun _ U _ => vk_R "GlacierCampLaw" 64 "/" (ls 64) U) ∧ StOk Γ (ls 64) tx64) ∧ (SF Γ (fun _ U _ => vk_R "GlacierCampLaw" 66 " snow b" (ls 66) U) ∧ StOk Γ (ls 66) tx66) ∧ (SF Γ (fun _ U _ => vk_R "GlacierCampLaw" 68 "/9 - " (ls 68) U) ∧ StOk Γ (ls 68) tx68) ∧ (SF Γ (fun _ U _ => vk_R "GlacierCampLaw" 70 " max(bridge c" (ls 70) U) ∧ StOk Γ (ls 70) tx70) ∧ (SF Γ (fun _ U _ => vk_R "GlacierCampLaw" 72 ", " (ls 72) U) ∧ StOk Γ (ls 72) tx72) ∧ (SF Γ (fun _ U _ => vk_R "GlacierCampLaw" 74 "" (ls 74) U) ∧ StOk Γ (ls 74) tx74) ∧ (SF Γ (fun _ U _ => vk_R "GlacierCampLaw" 76 " when day>" (ls 76) U) ∧ StOk Γ (ls 76) tx76) ∧ (SF Γ (fun _ U _ => vk_R "GlacierCampLaw" 78 " when sack t" (ls 78) U) ∧ StOk Γ (ls 78) tx78) ∧ (SF Γ (fun _ U _ => vk_R "GlacierCampLaw" 80 "<" (ls 80) U) ∧ StOk Γ (ls 80) tx80) ∧ (SF Γ (fun _ U _ => vk_R "GlacierCampLaw" 82 "*3" (ls 82) U) ∧ StOk Γ (ls 82) tx82) ∧ (SF Γ (fun _ U _ => vk_R "GlacierCampLaw" 84 " when standing s" (ls 84) U) ∧ StOk Γ (ls 84) tx84) ∧ (SF Γ (fun _ U _ => vk_R "GlacierCampLaw" 86 " when not standing s" (ls 86) U) ∧ StOk Γ (ls 86) tx86) ∧ (SF Γ (fun _ U _ => vk_R "GlacierCampLaw" 88 " or out s" (ls 88) U) ∧ StOk Γ (ls 88) tx88) ∧ (SF Γ (fun _ U _ => vk_R "GlacierCampLaw" 90 ">9*" (ls 90) U) ∧ StOk Γ (ls 90) tx90) ∧ (SF Γ (fun _ U _ => vk_R "GlacierCampLaw" 92 " when known c" (ls 92) U) ∧ StOk Γ (ls 92) tx92) ∧ (SF Γ (fun _ U _ => vk_R "GlacierCampLaw" 94 " and bridge c" (ls 94) U) ∧ StOk Γ (ls 94) tx94) ∧ (SF Γ (fun _ U _ => vk_R "GlacierCampLaw" 96 ">=" (ls 96) U) ∧ StOk Γ (ls 96) tx96) ∧ (SF Γ (fun _ U _ => vk_R "GlacierCampLaw" 98 " when not known c" (ls 98) U) ∧ StOk Γ (ls 98) tx98) ∧ (SF Γ (fun _ U _ => vk_R "GlacierCampLaw" 100 " and day-day/3*3=0" (ls 100) U) ∧ StOk Γ (ls 100) tx100) ∧ (SF Γ (fun _ U _ => vk_R "GlacierCampLaw" 102 " when [here t" (ls 102) U) ∧ StOk Γ (ls 102) tx102) ∧ (SF Γ (fun _ U _ => vk_R "GlacierCampLaw" 104 " or " (ls 104) U) ∧ StOk Γ (ls 104) tx104) ∧ (SF Γ (fun _ U _ => vk_R "GlacierCampLaw" 106 ">3]and warm>=2*" (ls 106) U) ∧ StOk Γ (ls 106) tx106) ∧ (SF Γ (fun _ U _ => vk_R "GlacierCampLaw" 108 " when not place t" (ls 108) U) ∧ StOk Γ (ls 108) tx108) ∧ (SF Γ (fun _ U _ => vk_R "GlacierCampLaw" 110 "=" (ls 110) U) ∧ StOk Γ (ls 110) tx110) ∧ (SF Γ (fun _ U _ => vk_R "GlacierCampLaw" 112 " when " (ls 112) U) ∧ StOk Γ (ls 112) tx112) ∧ (SF Γ (fun _ U _ => vk_R "GlacierCampLaw" 114 "<=" (ls 114) U) ∧ StOk Γ (ls 114) tx114) ∧ (SF Γ (fun _ U _ => vk_R "GlacierCampLaw" 135 "band b" (ls 135) U) ∧ StOk Γ (ls 135) tx135) ∧ (SF Γ (fun _ U _ => vk_R "GlacierCampLaw" 137 " height " (ls 137) U) ∧ StOk Γ (ls 137) tx137) ∧ (SF Γ (fun _ U _ => vk_R "GlacierCampLaw" 139 " snow " (ls 139) U) ∧ StOk Γ (ls 139) tx139) ∧ (SF Γ (fun _ U _ => vk_R "GlacierCampLaw" 141 ";" (ls 141) U) ∧ StOk Γ (ls 141) tx141) ∧ (SF Γ (fun _ U _ => vk_R "GlacierCampLaw" 143 " ;\n" (ls 143) U) ∧ StOk Γ (ls 143) tx143) ∧ (SF Γ (fun _ U _ => vk_R "GlacierCampLaw" 148 "stake s" (ls 148) U) ∧ StOk Γ (ls 148) tx148) ∧ (SF Γ (fun _ U _ => vk_R "GlacierCampLaw" 150 " in b" (ls 150) U) ∧ StOk Γ (ls 150) tx150) ∧ (SF Γ (fun _ U _ => vk_R "GlacierCampLaw" 152 " deep " (ls 152) U) ∧ StOk Γ (ls 152) tx152) ∧ (SF Γ (fun _ U _ => vk_R "GlacierCampLaw" 157 "crevasse c" (ls 157) U) ∧ StOk Γ (ls 157) tx157) ∧ (SF Γ (fun _ U _ => vk_R "GlacierCampLaw" 159 " above b" (ls 159) U) ∧ StOk Γ (ls 159) tx159) ∧ (SF Γ (fun _ U _ => vk_R "GlacierCampLaw" 161 " bridge " (ls 161) U) ∧ StOk Γ (ls 161) tx161) ∧ (SF Γ (fun _ U _ => vk_R "GlacierCampLaw" 166 "depot d" (ls 166) U) ∧ StOk Γ (ls 166) tx166) ∧ (SF Γ (fun _ U _ => vk_R "GlacierCampLaw" 168 " food " (ls 168) U) ∧ StOk Γ (ls 168) tx168) ∧ (SF Γ (fun _ U _ => vk_R "GlacierCampLaw" 173 "team t" (ls 173) U) ∧ StOk Γ (ls 173) tx173) ∧ (SF Γ (fun _ U _ => vk_R "GlacierCampLaw" 175 " size " (ls 175) U) ∧ StOk Γ (ls 175) tx175) ∧ (SF Γ (fun _ U _ => vk_R "GlacierCampLaw" 180 "day " (ls 180) U) ∧ StOk Γ (ls 180) tx180) ∧ (SF Γ (fun _ U _ => vk_R "GlacierCampLaw" 182 " warm " (ls 182) U) ∧ StOk Γ (ls 182) tx182) ∧ (SF Γ (fun _ U _ => vk_R "GlacierCampLaw" 187 "climb t" (ls 187) U) ∧ StOk Γ (ls 187) tx187) ∧ (SF Γ (fun _ U _ => vk_R "GlacierCampLaw" 189 "descend t" (ls 189) U) ∧ StOk Γ (ls 189) tx189) ∧ (SF Γ (fun _ U _ => vk_R "GlacierCampLaw" 191 "probe c" (ls 191) U) ∧ StOk Γ (ls 191) tx191) ∧ (SF Γ (fun _ U _ => vk_R "GlacierCampLaw" 193 " by t" (ls 193) U) ∧ StOk Γ (ls 193) tx193) ∧ (SF Γ (fun _ U _ => vk_R "GlacierCampLaw" 195 "fill t" (ls 195) U) ∧ StOk Γ (ls 195) tx195) ∧ (SF Γ (fun _ U _ => vk_R "GlacierCampLaw" 197 " with" (ls 197) U) ∧ StOk Γ (ls 197) tx197) ∧ (SF Γ (fun _ U _ => vk_R "GlacierCampLaw" 203 "drill s" (ls 203) U) ∧ StOk Γ (ls 203) tx203) ∧ (SF Γ (fun _ U _ => vk_R "GlacierCampLaw" 208 ";\n" (ls 208) U) ∧ StOk Γ (ls 208) tx208)
theorem LsOk.t35 {Γ : G9} {ls : Nat → Nat} (h : LsOk Γ ls) : SF Γ (fun _ U _ => vk_R "GlacierCampLaw" 35 " " (ls 35) U) ∧ StOk Γ (ls 35) tx35 := h.1
theorem LsOk.t48 {Γ : G9} {ls : Nat → Nat} (h : LsOk Γ ls) : SF Γ (fun _ U _ => vk_R "GlacierCampLaw" 48 " 40-sack t" (ls 48) U) ∧ StOk Γ (ls 48) tx48 := h.2.1
theorem LsOk.t50 {Γ : G9} {ls : Nat → Nat} (h : LsOk Γ ls) : SF Γ (fun _ U _ => vk_R "GlacierCampLaw" 50 " min(stock d" (ls 50) U) ∧ StOk Γ (ls 50) tx50 := h.2.2.1
theorem LsOk.t52 {Γ : G9} {ls : Nat → Nat} (h : LsOk Γ ls) : SF Γ (fun _ U _ => vk_R "GlacierCampLaw" 52 "," (ls 52) U) ∧ StOk Γ (ls 52) tx52 := h.2.2.2.1
theorem LsOk.t54 {Γ : G9} {ls : Nat → Nat} (h : LsOk Γ ls) : SF Γ (fun _ U _ => vk_R "GlacierCampLaw" 54 ")" (ls 54) U) ∧ StOk Γ (ls 54) tx54 := h.2.2.2.2.1
theorem LsOk.t56 {Γ : G9} {ls : Nat → Nat} (h : LsOk Γ ls) : SF Γ (fun _ U _ => vk_R "GlacierCampLaw" 56 " day+" (ls 56) U) ∧ StOk Γ (ls 56) tx56 := h.2.2.2.2.2.1
theorem LsOk.t58 {Γ : G9} {ls : Nat → Nat} (h : LsOk Γ ls) : SF Γ (fun _ U _ => vk_R "GlacierCampLaw" 58 " place t" (ls 58) U) ∧ StOk Γ (ls 58) tx58 := h.2.2.2.2.2.2.1
theorem LsOk.t60 {Γ : G9} {ls : Nat → Nat} (h : LsOk Γ ls) : SF Γ (fun _ U _ => vk_R "GlacierCampLaw" 60 "*" (ls 60) U) ∧ StOk Γ (ls 60) tx60 := h.2.2.2.2.2.2.2.1
theorem LsOk.t62 {Γ : G9} {ls : Nat → Nat} (h : LsOk Γ ls) : SF Γ (fun _ U _ => vk_R "GlacierCampLaw" 62 " out s" (ls 62) U) ∧ StOk Γ (ls 62) tx62 := h.2.2.2.2.2.2.2.2.1
theorem LsOk.t64 {Γ : G9} {ls : Nat → Nat} (h : LsOk Γ ls) : SF Γ (fun _ U _ => vk_R "GlacierCampLaw" 64 "/" (ls 64) U) ∧ StOk Γ (ls 64) tx64 := h.2.2.2.2.2.2.2.2.2.1
theorem LsOk.t66 {Γ : G9} {ls : Nat → Nat} (h : LsOk Γ ls) : SF Γ (fun _ U _ => vk_R "GlacierCampLaw" 66 " snow b" (ls 66) U) ∧ StOk Γ (ls 66) tx66 := h.2.2.2.2.2.2.2.2.2.2.1
theorem LsOk.t68 {Γ : G9} {ls : Nat → Nat} (h : LsOk Γ ls) : SF Γ (fun _ U _ => vk_R "GlacierCampLaw" 68 "/9 - " (ls 68) U) ∧ StOk Γ (ls 68) tx68 := h.2.2.2.2.2.2.2.2.2.2.2.1
theorem LsOk.t70 {Γ : G9} {ls : Nat → Nat} (h : LsOk Γ ls) : SF Γ (fun _ U _ => vk_R "GlacierCampLaw" 70 " max(bridge c" (ls 70) U) ∧ StOk Γ (ls 70) tx70 := h.2.2.2.2.2.2.2.2.2.2.2.2.1
theorem LsOk.t72 {Γ : G9} {ls : Nat → Nat} (h : LsOk Γ ls) : SF Γ (fun _ U _ => vk_R "GlacierCampLaw" 72 ", " (ls 72) U) ∧ StOk Γ (ls 72) tx72 := h.2.2.2.2.2.2.2.2.2.2.2.2.2.1
theorem LsOk.t74 {Γ : G9} {ls : Nat → Nat} (h : LsOk Γ ls) : SF Γ (fun _ U _ => vk_R "GlacierCampLaw" 74 "" (ls 74) U) ∧ StOk Γ (ls 74) tx74 := h.2.2.2.2.2.2.2.2.2.2.2.2.2.2.1
theorem LsOk.t76 {Γ : G9} {ls : Nat → Nat} (h : LsOk Γ ls) : SF Γ (fun _ U _ => vk_R "GlacierCampLaw" 76 " when day>" (ls 76) U) ∧ StOk Γ (ls 76) tx76 := h.2.2.2.2.2.2.2.2.2.2.2.2.2.2.2.1
theorem LsOk.t78 {Γ : G9} {ls : Nat → Nat} (h : LsOk Γ ls) : SF Γ (fun _ U _ => vk_R "GlacierCampLaw" 78 " when sack t" (ls 78) U) ∧ StOk Γ (ls 78) tx78 := h.2.2.2.2.2.2.2.2.2.2.2.2.2.2.2.2.1
theorem LsOk.t80 {Γ : G9} {ls : Nat → Nat} (h : LsOk Γ ls) : SF Γ (fun _ U _ => vk_R "GlacierCampLaw" 80 "<" (ls 80) U) ∧ StOk Γ (ls 80) tx80 := h.2.2.2.2.2.2.2.2.2.2.2.2.2.2.2.2.2.1
theorem LsOk.t82 {Γ : G9} {ls : Nat → Nat} (h : LsOk Γ ls) : SF Γ (fun _ U _ => vk_R "GlacierCampLaw" 82 "*3" (ls 82) U) ∧ StOk Γ (ls 82) tx82 := h.2.2.2.2.2.2.2.2.2.2.2.2.2.2.2.2.2.2.1
theorem LsOk.t84 {Γ : G9} {ls : Nat → Nat} (h : LsOk Γ ls) : SF Γ (fun _ U _ => vk_R "GlacierCampLaw" 84 " when standing s" (ls 84) U) ∧ StOk Γ (ls 84) tx84 := h.2.2.2.2.2.2.2.2.2.2.2.2.2.2.2.2.2.2.2.1
theorem LsOk.t86 {Γ : G9} {ls : Nat → Nat} (h : LsOk Γ ls) : SF Γ (fun _ U _ => vk_R "GlacierCampLaw" 86 " when not standing s" (ls 86) U) ∧ StOk Γ (ls 86) tx86 := h.2.2.2.2.2.2.2.2.2.2.2.2.2.2.2.2.2.2.2.2.1
theorem LsOk.t88 {Γ : G9} {ls : Nat → Nat} (h : LsOk Γ ls) : SF Γ (fun _ U _ => vk_R "GlacierCampLaw" 88 " or out s" (ls 88) U) ∧ StOk Γ (ls 88) tx88 := h.2.2.2.2.2.2.2.2.2.2.2.2.2.2.2.2.2.2.2.2.2.1
theorem LsOk.t90 {Γ : G9} {ls : Nat → Nat} (h : LsOk Γ ls) : SF Γ (fun _ U _ => vk_R "GlacierCampLaw" 90 ">9*" (ls 90) U) ∧ StOk Γ (ls 90) tx90 := h.2.2.2.2.2.2.2.2.2.2.2.2.2.2.2.2.2.2.2.2.2.2.1
theorem LsOk.t92 {Γ : G9} {ls : Nat → Nat} (h : LsOk Γ ls) : SF Γ (fun _ U _ => vk_R "GlacierCampLaw" 92 " when known c" (ls 92) U) ∧ StOk Γ (ls 92) tx92 := h.2.2.2.2.2.2.2.2.2.2.2.2.2.2.2.2.2.2.2.2.2.2.2.1
theorem LsOk.t94 {Γ : G9} {ls : Nat → Nat} (h : LsOk Γ ls) : SF Γ (fun _ U _ => vk_R "GlacierCampLaw" 94 " and bridge c" (ls 94) U) ∧ StOk Γ (ls 94) tx94 := h.2.2.2.2.2.2.2.2.2.2.2.2.2.2.2.2.2.2.2.2.2.2.2.2.1
theorem LsOk.t96 {Γ : G9} {ls : Nat → Nat} (h : LsOk Γ ls) : SF Γ (fun _ U _ => vk_R "GlacierCampLaw" 96 ">=" (ls 96) U) ∧ StOk Γ (ls 96) tx96 := h.2.2.2.2.2.2.2.2.2.2.2.2.2.2.2.2.2.2.2.2.2.2.2.2.2.1
theorem LsOk.t98 {Γ : G9} {ls : Nat → Nat} (h : LsOk Γ ls) : SF Γ (fun _ U _ => vk_R "GlacierCampLaw" 98 " when not known c" (ls 98) U) ∧ StOk Γ (ls 98) tx98 := h.2.2.2.2.2.2.2.2.2.2.2.2.2.2.2.2.2.2.2.2.2.2.2.2.2.2.1
theorem LsOk.t100 {Γ : G9} {ls : Nat → Nat} (h : LsOk Γ ls) : SF Γ (fun _ U _ => vk_R "GlacierCampLaw" 100 " and day-day/3*3=0" (ls 100) U) ∧ StOk Γ (ls 100) tx100 := h.2.2.2.2.2.2.2.2.2.2.2.2.2.2.2.2.2.2.2.2.2.2.2.2.2.2.2.1
theorem LsOk.t102 {Γ : G9} {ls : Nat → Nat} (h : LsOk Γ ls) : SF Γ (fun _ U _ => vk_R "GlacierCampLaw" 102 " when [here t" (ls 102) U) ∧ StOk Γ (ls 102) tx102 := h.2.2.2.2.2.2.2.2.2.2.2.2.2.2.2.2.2.2.2.2.2.2.2.2.2.2.2.2.1
theorem LsOk.t104 {Γ : G9} {ls : Nat → Nat} (h : LsOk Γ ls) : SF Γ (fun _ U _ => vk_R "GlacierCampLaw" 104 " or " (ls 104) U) ∧ StOk Γ (ls 104) tx104 := h.2.2.2.2.2.2.2.2.2.2.2.2.2.2.2.2.2.2.2.2.2.2.2.2.2.2.2.2.2.1
theorem LsOk.t106 {Γ : G9} {ls : Nat → Nat} (h : LsOk Γ ls) : SF Γ (fun _ U _ => vk_R "GlacierCampLaw" 106 ">3]and warm>=2*" (ls 106) U) ∧ StOk Γ (ls 106) tx106 := h.2.2.2.2.2.2.2.2.2.2.2.2.2.2.2.2.2.2.2.2.2.2.2.2.2.2.2.2.2.2.1
theorem LsOk.t108 {Γ : G9} {ls : Nat → Nat} (h : LsOk Γ ls) : SF Γ (fun _ U _ => vk_R "GlacierCampLaw" 108 " when not place t" (ls 108) U) ∧ StOk Γ (ls 108) tx108 := h.2.2.2.2.2.2.2.2.2.2.2.2.2.2.2.2.2.2.2.2.2.2.2.2.2.2.2.2.2.2.2.1
theorem LsOk.t110 {Γ : G9} {ls : Nat → Nat} (h : LsOk Γ ls) : SF Γ (fun _ U _ => vk_R "GlacierCampLaw" 110 "=" (ls 110) U) ∧ StOk Γ (ls 110) tx110 := h.2.2.2.2.2.2.2.2.2.2.2.2.2.2.2.2.2.2.2.2.2.2.2.2.2.2.2.2.2.2.2.2.1
theorem LsOk.t112 {Γ : G9} {ls : Nat → Nat} (h : LsOk Γ ls) : SF Γ (fun _ U _ => vk_R "GlacierCampLaw" 112 " when " (ls 112) U) ∧ StOk Γ (ls 112) tx112 := h.2.2.2.2.2.2.2.2.2.2.2.2.2.2.2.2.2.2.2.2.2.2.2.2.2.2.2.2.2.2.2.2.2.1
theorem LsOk.t114 {Γ : G9} {ls : Nat → Nat} (h : LsOk Γ ls) : SF Γ (fun _ U _ => vk_R "GlacierCampLaw" 114 "<=" (ls 114) U) ∧ StOk Γ (ls 114) tx114 := h.2.2.2.2.2.2.2.2.2.2.2.2.2.2.2.2.2.2.2.2.2.2.2.2.2.2.2.2.2.2.2.2.2.2.1
theorem LsOk.t135 {Γ : G9} {ls : Nat → Nat} (h : LsOk Γ ls) : SF Γ (fun _ U _ => vk_R "GlacierCampLaw" 135 "band b" (ls 135) U) ∧ StOk Γ (ls 135) tx135 := h.2.2.2.2.2.2.2.2.2.2.2.2.2.2.2.2.2.2.2.2.2.2.2.2.2.2.2.2.2.2.2.2.2.2.2.1
theorem LsOk.t137 {Γ : G9} {ls : Nat → Nat} (h : LsOk Γ ls) : SF Γ (fun _ U _ => vk_R "GlacierCampLaw" 137 " height " (ls 137) U) ∧ StOk Γ (ls 137) tx137 := h.2.2.2.2.2.2.2.2.2.2.2.2.2.2.2.2.2.2.2.2.2.2.2.2.2.2.2.2.2.2.2.2.2.2.2.2.1
theorem LsOk.t139 {Γ : G9} {ls : Nat → Nat} (h : LsOk Γ ls) : SF Γ (fun _ U _ => vk_R "GlacierCampLaw" 139 " snow " (ls 139) U) ∧ StOk Γ (ls 139) tx139 := h.2.2.2.2.2.2.2.2.2.2.2.2.2.2.2.2.2.2.2.2.2.2.2.2.2.2.2.2.2.2.2.2.2.2.2.2.2.1
theorem LsOk.t141 {Γ : G9} {ls : Nat → Nat} (h : LsOk Γ ls) : SF Γ (fun _ U _ => vk_R "GlacierCampLaw" 141 ";" (ls 141) U) ∧ StOk Γ (ls 141) tx141 := h.2.2.2.2.2.2.2.2.2.2.2.2.2.2.2.2.2.2.2.2.2.2.2.2.2.2.2.2.2.2.2.2.2.2.2.2.2.2.1
theorem LsOk.t143 {Γ : G9} {ls : Nat → Nat} (h : LsOk Γ ls) : SF Γ (fun _ U _ => vk_R "GlacierCampLaw" 143 " ;\n" (ls 143) U) ∧ StOk Γ (ls 143) tx143 := h.2.2.2.2.2.2.2.2.2.2.2.2.2.2.2.2.2.2.2.2.2.2.2.2.2.2.2.2.2.2.2.2.2.2.2.2.2.2.2.1
theorem LsOk.t148 {Γ : G9} {ls : Nat → Nat} (h : LsOk Γ ls) : SF Γ (fun _ U _ => vk_R "GlacierCampLaw" 148 "stake s" (ls 148) U) ∧ StOk Γ (ls 148) tx148 := h.2.2.2.2.2.2.2.2.2.2.2.2.2.2.2.2.2.2.2.2.2.2.2.2.2.2.2.2.2.2.2.2.2.2.2.2.2.2.2.2.1
theorem LsOk.t150 {Γ : G9} {ls : Nat → Nat} (h : LsOk Γ ls) : SF Γ (fun _ U _ => vk_R "GlacierCampLaw" 150 " in b" (ls 150) U) ∧ StOk Γ (ls 150) tx150 := h.2.2.2.2.2.2.2.2.2.2.2.2.2.2.2.2.2.2.2.2.2.2.2.2.2.2.2.2.2.2.2.2.2.2.2.2.2.2.2.2.2.1
theorem LsOk.t152 {Γ : G9} {ls : Nat → Nat} (h : LsOk Γ ls) : SF Γ (fun _ U _ => vk_R "GlacierCampLaw" 152 " deep " (ls 152) U) ∧ StOk Γ (ls 152) tx152 := h.2.2.2.2.2.2.2.2.2.2.2.2.2.2.2.2.2.2.2.2.2.2.2.2.2.2.2.2.2.2.2.2.2.2.2.2.2.2.2.2.2.2.1
theorem LsOk.t157 {Γ : G9} {ls : Nat → Nat} (h : LsOk Γ ls) : SF Γ (fun _ U _ => vk_R "GlacierCampLaw" 157 "crevasse c" (ls 157) U) ∧ StOk Γ (ls 157) tx157 := h.2.2.2.2.2.2.2.2.2.2.2.2.2.2.2.2.2.2.2.2.2.2.2.2.2.2.2.2.2.2.2.2.2.2.2.2.2.2.2.2.2.2.2.1
theorem LsOk.t159 {Γ : G9} {ls : Nat → Nat} (h : LsOk Γ ls) : SF Γ (fun _ U _ => vk_R "GlacierCampLaw" 159 " above b" (ls 159) U) ∧ StOk Γ (ls 159) tx159 := h.2.2.2.2.2.2.2.2.2.2.2.2.2.2.2.2.2.2.2.2.2.2.2.2.2.2.2.2.2.2.2.2.2.2.2.2.2.2.2.2.2.2.2.2.1
theorem LsOk.t161 {Γ : G9} {ls : Nat → Nat} (h : LsOk Γ ls) : SF Γ (fun _ U _ => vk_R "GlacierCampLaw" 161 " bridge " (ls 161) U) ∧ StOk Γ (ls 161) tx161 := h.2.2.2.2.2.2.2.2.2.2.2.2.2.2.2.2.2.2.2.2.2.2.2.2.2.2.2.2.2.2.2.2.2.2.2.2.2.2.2.2.2.2.2.2.2.1
theorem LsOk.t166 {Γ : G9} {ls : Nat → Nat} (h : LsOk Γ ls) : SF Γ (fun _ U _ => vk_R "GlacierCampLaw" 166 "depot d" (ls 166) U) ∧ StOk Γ (ls 166) tx166 := h.2.2.2.2.2.2.2.2.2.2.2.2.2.2.2.2.2.2.2.2.2.2.2.2.2.2.2.2.2.2.2.2.2.2.2.2.2.2.2.2.2.2.2.2.2.2.1
theorem LsOk.t168 {Γ : G9} {ls : Nat → Nat} (h : LsOk Γ ls) : SF Γ (fun _ U _ => vk_R "GlacierCampLaw" 168 " food " (ls 168) U) ∧ StOk Γ (ls 168) tx168 := h.2.2.2.2.2.2.2.2.2.2.2.2.2.2.2.2.2.2.2.2.2.2.2.2.2.2.2.2.2.2.2.2.2.2.2.2.2.2.2.2.2.2.2.2.2.2.2.1
theorem LsOk.t173 {Γ : G9} {ls : Nat → Nat} (h : LsOk Γ ls) : SF Γ (fun _ U _ => vk_R "GlacierCampLaw" 173 "team t" (ls 173) U) ∧ StOk Γ (ls 173) tx173 := h.2.2.2.2.2.2.2.2.2.2.2.2.2.2.2.2.2.2.2.2.2.2.2.2.2.2.2.2.2.2.2.2.2.2.2.2.2.2.2.2.2.2.2.2.2.2.2.2.1
theorem LsOk.t175 {Γ : G9} {ls : Nat → Nat} (h : LsOk Γ ls) : SF Γ (fun _ U _ => vk_R "GlacierCampLaw" 175 " size " (ls 175) U) ∧ StOk Γ (ls 175) tx175 := h.2.2.2.2.2.2.2.2.2.2.2.2.2.2.2.2.2.2.2.2.2.2.2.2.2.2.2.2.2.2.2.2.2.2.2.2.2.2.2.2.2.2.2.2.2.2.2.2.2.1
theorem LsOk.t180 {Γ : G9} {ls : Nat → Nat} (h : LsOk Γ ls) : SF Γ (fun _ U _ => vk_R "GlacierCampLaw" 180 "day " (ls 180) U) ∧ StOk Γ (ls 180) tx180 := h.2.2.2.2.2.2.2.2.2.2.2.2.2.2.2.2.2.2.2.2.2.2.2.2.2.2.2.2.2.2.2.2.2.2.2.2.2.2.2.2.2.2.2.2.2.2.2.2.2.2.1
theorem LsOk.t182 {Γ : G9} {ls : Nat → Nat} (h : LsOk Γ ls) : SF Γ (fun _ U _ => vk_R "GlacierCampLaw" 182 " warm " (ls 182) U) ∧ StOk Γ (ls 182) tx182 := h.2.2.2.2.2.2.2.2.2.2.2.2.2.2.2.2.2.2.2.2.2.2.2.2.2.2.2.2.2.2.2.2.2.2.2.2.2.2.2.2.2.2.2.2.2.2.2.2.2.2.2.1
theorem LsOk.t187 {Γ : G9} {ls : Nat → Nat} (h : LsOk Γ ls) : SF Γ (fun _ U _ => vk_R "GlacierCampLaw" 187 "climb t" (ls 187) U) ∧ StOk Γ (ls 187) tx187 := h.2.2.2.2.2.2.2.2.2.2.2.2.2.2.2.2.2.2.2.2.2.2.2.2.2.2.2.2.2.2.2.2.2.2.2.2.2.2.2.2.2.2.2.2.2.2.2.2.2.2.2.2.1
theorem LsOk.t189 {Γ : G9} {ls : Nat → Nat} (h : LsOk Γ ls) : SF Γ (fun _ U _ => vk_R "GlacierCampLaw" 189 "descend t" (ls 189) U) ∧ StOk Γ (ls 189) tx189 := h.2.2.2.2.2.2.2.2.2.2.2.2.2.2.2.2.2.2.2.2.2.2.2.2.2.2.2.2.2.2.2.2.2.2.2.2.2.2.2.2.2.2.2.2.2.2.2.2.2.2.2.2.2.1
theorem LsOk.t191 {Γ : G9} {ls : Nat → Nat} (h : LsOk Γ ls) : SF Γ (fun _ U _ => vk_R "GlacierCampLaw" 191 "probe c" (ls 191) U) ∧ StOk Γ (ls 191) tx191 := h.2.2.2.2.2.2.2.2.2.2.2.2.2.2.2.2.2.2.2.2.2.2.2.2.2.2.2.2.2.2.2.2.2.2.2.2.2.2.2.2.2.2.2.2.2.2.2.2.2.2.2.2.2.2.1
theorem LsOk.t193 {Γ : G9} {ls : Nat → Nat} (h : LsOk Γ ls) : SF Γ (fun _ U _ => vk_R "GlacierCampLaw" 193 " by t" (ls 193) U) ∧ StOk Γ (ls 193) tx193 := h.2.2.2.2.2.2.2.2.2.2.2.2.2.2.2.2.2.2.2.2.2.2.2.2.2.2.2.2.2.2.2.2.2.2.2.2.2.2.2.2.2.2.2.2.2.2.2.2.2.2.2.2.2.2.2.1
theorem LsOk.t195 {Γ : G9} {ls : Nat → Nat} (h : LsOk Γ ls) : SF Γ (fun _ U _ => vk_R "GlacierCampLaw" 195 "fill t" (ls 195) U) ∧ StOk Γ (ls 195) tx195 := h.2.2.2.2.2.2.2.2.2.2.2.2.2.2.2.2.2.2.2.2.2.2.2.2.2.2.2.2.2.2.2.2.2.2.2.2.2.2.2.2.2.2.2.2.2.2.2.2.2.2.2.2.2.2.2.2.1
theorem LsOk.t197 {Γ : G9} {ls : Nat → Nat} (h : LsOk Γ ls) : SF Γ (fun _ U _ => vk_R "GlacierCampLaw" 197 " with" (ls 197) U) ∧ StOk Γ (ls 197) tx197 := h.2.2.2.2.2.2.2.2.2.2.2.2.2.2.2.2.2.2.2.2.2.2.2.2.2.2.2.2.2.2.2.2.2.2.2.2.2.2.2.2.2.2.2.2.2.2.2.2.2.2.2.2.2.2.2.2.2.1
theorem LsOk.t203 {Γ : G9} {ls : Nat → Nat} (h : LsOk Γ ls) : SF Γ (fun _ U _ => vk_R "GlacierCampLaw" 203 "drill s" (ls 203) U) ∧ StOk Γ (ls 203) tx203 := h.2.2.2.2.2.2.2.2.2.2.2.2.2.2.2.2.2.2.2.2.2.2.2.2.2.2.2.2.2.2.2.2.2.2.2.2.2.2.2.2.2.2.2.2.2.2.2.2.2.2.2.2.2.2.2.2.2.2.1
theorem LsOk.t208 {Γ : G9} {ls : Nat → Nat} (h : LsOk Γ ls) : SF Γ (fun _ U _ => vk_R "GlacierCampLaw" 208 ";\n" (ls 208) U) ∧ StOk Γ (ls 208) tx208 := h.2.2.2.2.2.2.2.2.2.2.2.2.2.2.2.2.2.2.2.2.2.2.2.2.2.2.2.2.2.2.2.2.2.2.2.2.2.2.2.2.2.2.2.2.2.2.2.2.2.2.2.2.2.2.2.2.2.2.2
/-- the law's own row of ints -/
def ScOk (Γ : G9) (b L : Nat) (xs : Nat → Int32) : Prop := SF Γ (fun A U H => va_X b L xs U H ∧ b < H.size ∧ ¬ A b)
section GoLaw
variable {Γ : G9} {M : MI} {d C S pc q : Nat} {L : List (Option Value)} {st : List Value} {h : AH} {z : Nat} {Q : QT} {X : XT}
theorem Go.sld {b n : Nat} {xs : Nat → Int32} {i : Int32} (hd : decode M.2.1 pc = .ok (.iaload, 1)) (hq : pc + 1 = q) (hsc : ScOk Γ b n xs) (hin : vp_in i n) (kk : Go Γ M d C S q L (.int (xs i.toNatClampNeg) :: st) h z Q X) : Go Γ M d C S pc L (.int i :: .ref b :: st) h z Q X := by
  subst hq
  intro p e R s m args below meth c H locs cells slots ls Z hc
  obtain ⟨h1, h2, h3⟩ := hsc _ _ hc.2.2.1.se
  exact va_sld hc.1.1 hc.1.2.1 h1 h2 h3 hc.2.2.1.2.1 hin hd (kk _ _ _ _ _ _ _ _ _ _ _ _ _ _ _ hc)
theorem Go.slen {b n : Nat} {xs : Nat → Int32} (hd : decode M.2.1 pc = .ok (.arraylength, 1)) (hq : pc + 1 = q) (hsc : ScOk Γ b n xs) (kk : Go Γ M d C S q L (.int (nI n) :: st) h z Q X) : Go Γ M d C S pc L (.ref b :: st) h z Q X := by
  subst hq
  intro p e R s m args below meth c H locs cells slots ls Z hc
  obtain ⟨h1, h2, h3⟩ := hsc _ _ hc.2.2.1.se
  exact va_slen hc.1.1 hc.1.2.1 h1 h2 h3 hc.2.2.1.2.1 hd (kk _ _ _ _ _ _ _ _ _ _ _ _ _ _ _ hc)
end GoLaw
theorem x_lk7 : Cond.constant "GlacierCampLaw" 7 2147483647 ∈ gw := gm_3 (List.mem_of_getElem? (i := 181) rfl) rfl
theorem x_lk8 : Cond.constant "GlacierCampLaw" 8 790386105 ∈ gw := gm_3 (List.mem_of_getElem? (i := 185) rfl) rfl
theorem x_lkSB : Cond.classLink "GlacierCampLaw" 32 "java/lang/StringBuilder" ∈ gw := gm_6 (List.mem_of_getElem? (i := 144) rfl) rfl
theorem x_insSB : Cond.instantiable "java/lang/StringBuilder" 4 ∈ gw := gm_6 (List.mem_of_getElem? (i := 145) rfl) rfl
theorem x_iniSB : Cond.initialized "java/lang/StringBuilder" ∈ gw := gm_1 (List.mem_of_getElem? (i := 11) rfl) rfl
def bel (v : Int32) (n : Nat) : Nat := (v &&& 2147483647).toNatClampNeg % n
theorem bel_lt {v : Int32} {n : Nat} (h : 0 < n) : bel v n < n := Nat.mod_lt _ h
theorem and_nn (v : Int32) : ¬ (v &&& 2147483647) < 0 := by
  intro h
  have h1 : (v &&& 2147483647).toBitVec.toInt < 0 := by
    have := Int32.lt_iff_toInt_lt.mp h
    rw [Int32.toInt_zero] at this
    exact this
  have h2 : (v &&& 2147483647).toBitVec.msb = true := by
    rw [BitVec.msb_eq_toInt]
    exact decide_eq_true h1
  rw [Int32.toBitVec_and, BitVec.msb_and] at h2
  have h3 : (2147483647 : Int32).toBitVec.msb = false := by decide
  rw [h3, Bool.and_false] at h2
  cases h2
theorem tnc_lt (x : Int32) : x.toNatClampNeg < 2 ^ 31 := by
  have h1 : x.toInt < 2 ^ 31 := Int32.toInt_lt x
  show x.toInt.toNat < 2 ^ 31
  omega
theorem n9_fs_SB : ∀ j, j < 4 → defaultValue (ty_StringBuilder j) = vp_V [.null, .int 0, .int 0, .int 0] j := by
  intro j hj
  match j, hj with
  | 0, _ => rfl
  | 1, _ => rfl
  | 2, _ => rfl
  | 3, _ => rfl
  | _ + 4, w => exact absurd w (by omega)
theorem SB.rd {Γ : G9} {h h0 : AH} {b q : Nat} {t : List Int32} (hs : SB Γ h b h0 t q) : Ext h0 h := by
  obtain ⟨v, m, a, rfl, hbv, h0b, h0v, -⟩ := hs
  exact bd_ext h0b h0v
theorem SB.obj {Γ : G9} {h h0 : AH} {b q : Nat} {t : List Int32} (hs : SB Γ h b h0 t q) : ∃ v n : Nat, h b = some (sbO v n) := by
  obtain ⟨v, m, a, rfl, hbv, -⟩ := hs
  exact ⟨_, _, bd_b hbv⟩
theorem dec_le {v : Nat} : (dec v).length ≤ 3 := (dec_len v).2
theorem dec_1 {v : Nat} (h : v < 10) : (dec v).length = 1 := by
  unfold dec
  rw [if_pos h]
  rfl
theorem dec_2 {v : Nat} (h : v < 100) : (dec v).length ≤ 2 := by
  unfold dec
  by_cases h1 : v < 10
  · rw [if_pos h1]
    exact Nat.le_of_ble_eq_true rfl
  · rw [if_neg h1, if_pos h]
    exact Nat.le_of_ble_eq_true rfl
theorem hdel_up {h : AH} {z : Nat} {e : va_E} (hz : h z = none) : hdel (hup h z e) z = h := by
  funext x
  by_cases hx : x = z
  · rw [hx, hdel_at, hz]
  · rw [hdel_ne hx, hup_ne hx]
theorem d_Law_below_0 : decode M_Law_below.2.1 0 = .ok (.iload_n 0, 1) := by decide +kernel
theorem d_Law_below_1 : decode M_Law_below.2.1 1 = .ok (.ldc 7, 2) := by decide +kernel
theorem d_Law_below_3 : decode M_Law_below.2.1 3 = .ok (.iand, 1) := by decide +kernel
theorem d_Law_below_4 : decode M_Law_below.2.1 4 = .ok (.iload_n 1, 1) := by decide +kernel
theorem d_Law_below_5 : decode M_Law_below.2.1 5 = .ok (.irem, 1) := by decide +kernel
theorem d_Law_below_6 : decode M_Law_below.2.1 6 = .ok (.ireturn, 1) := by decide +kernel
set_option maxRecDepth 100000 in
set_option maxHeartbeats 4000000 in
theorem c_below {Γ : G9} {h : AH} {z n : Nat} {v vn : Int32} (en : vn = nI n) (h0 : 0 < n) (hn : n < 2 ^ 31) : CallR Γ M_Law_below 0 [.int v, .int vn] h z (some (.int (nI (bel v n)))) h := by
  subst en
  refine Call.of_go (L := [some (.int v), some (.int (nI n))]) (by decide +kernel) rfl (by exact Nat.le_of_ble_eq_true rfl) ?_
  refine Go.iload_0 d_Law_below_0 rfl ?_
  refine Go.ldcI d_Law_below_1 rfl x_lk7 ?_
  refine Go.iand d_Law_below_3 rfl ?_
  refine Go.iload_1 d_Law_below_4 rfl ?_
  refine Go.irem d_Law_below_5 rfl (nI_ne0 h0 hn) ?_
  rw [nI_back (and_nn v), nI_remm (tnc_lt _) hn h0 rfl]
  exact Go.iret d_Law_below_6 rfl rfl ⟨rfl, rfl, rfl⟩
theorem d_Law_cell_0 : decode M_Law_cell.2.1 0 = .ok (.iload_n 1, 1) := by decide +kernel
theorem d_Law_cell_1 : decode M_Law_cell.2.1 1 = .ok (.aload_n 0, 1) := by decide +kernel
theorem d_Law_cell_2 : decode M_Law_cell.2.1 2 = .ok (.arraylength, 1) := by decide +kernel
theorem d_Law_cell_3 : decode M_Law_cell.2.1 3 = .ok (.if_icmp .ge 9, 3) := by decide +kernel
theorem d_Law_cell_6 : decode M_Law_cell.2.1 6 = .ok (.aload_n 0, 1) := by decide +kernel
theorem d_Law_cell_7 : decode M_Law_cell.2.1 7 = .ok (.iload_n 1, 1) := by decide +kernel
theorem d_Law_cell_8 : decode M_Law_cell.2.1 8 = .ok (.iaload, 1) := by decide +kernel
theorem d_Law_cell_9 : decode M_Law_cell.2.1 9 = .ok (.goto 9, 3) := by decide +kernel
theorem d_Law_cell_18 : decode M_Law_cell.2.1 18 = .ok (.ireturn, 1) := by decide +kernel
theorem d_Law_cell_12 : decode M_Law_cell.2.1 12 = .ok (.ldc 8, 2) := by decide +kernel
theorem d_Law_cell_14 : decode M_Law_cell.2.1 14 = .ok (.iload_n 1, 1) := by decide +kernel
theorem d_Law_cell_15 : decode M_Law_cell.2.1 15 = .ok (.iconst 3, 1) := by decide +kernel
theorem d_Law_cell_16 : decode M_Law_cell.2.1 16 = .ok (.iadd, 1) := by decide +kernel
theorem d_Law_cell_17 : decode M_Law_cell.2.1 17 = .ok (.imul, 1) := by decide +kernel
set_option maxRecDepth 100000 in
set_option maxHeartbeats 4000000 in
theorem c_cell {Γ : G9} {h : AH} {z b n k : Nat} {xs : Nat → Int32} {vk : Int32} (hsc : ScOk Γ b n xs) (hn : n < 2 ^ 31) (ek : vk = nI k) (hk : k < 1000) : ∃ x : Int32, CallR Γ M_Law_cell 0 [.ref b, .int vk] h z (some (.int x)) h := by
  subst ek
  by_cases hl : k < n
  · refine ⟨xs k, ?_⟩
    refine Call.of_go (L := [some (.ref b), some (.int (nI k))]) (by decide +kernel) rfl (by exact Nat.le_of_ble_eq_true rfl) ?_
    refine Go.iload_1 d_Law_cell_0 rfl ?_
    refine Go.aload_0 d_Law_cell_1 rfl ?_
    refine Go.slen d_Law_cell_2 rfl hsc ?_
    refine Go.icmp_ge (t := 12) d_Law_cell_3 (by decide) rfl (fun w => absurd w (nI_ge hl (by omega))) (fun _ => ?_)
    refine Go.aload_0 d_Law_cell_6 rfl ?_
    refine Go.iload_1 d_Law_cell_7 rfl ?_
    refine Go.sld d_Law_cell_8 rfl hsc (vp_in_nI hl (by omega)) ?_
    rw [nI_clamp (show k < 2 ^ 31 by omega)]
    refine Go.goto (t := 18) d_Law_cell_9 (by decide) ?_
    exact Go.iret d_Law_cell_18 rfl rfl ⟨rfl, rfl, rfl⟩
  · refine ⟨790386105 * (nI k + 3), ?_⟩
    refine Call.of_go (L := [some (.ref b), some (.int (nI k))]) (by decide +kernel) rfl (by exact Nat.le_of_ble_eq_true rfl) ?_
    refine Go.iload_1 d_Law_cell_0 rfl ?_
    refine Go.aload_0 d_Law_cell_1 rfl ?_
    refine Go.slen d_Law_cell_2 rfl hsc ?_
    refine Go.icmp_ge (t := 12) d_Law_cell_3 (by decide) rfl (fun _ => ?_) (fun w => absurd (nI_le (Nat.not_lt.mp hl) (by omega)) w)
    refine Go.ldcI d_Law_cell_12 rfl x_lk8 ?_
    refine Go.iload_1 d_Law_cell_14 rfl ?_
    refine Go.iconst (v := 3) d_Law_cell_15 rfl (by decide) ?_
    refine Go.iadd d_Law_cell_16 rfl ?_
    refine Go.imul d_Law_cell_17 rfl ?_
    exact Go.iret d_Law_cell_18 rfl rfl ⟨rfl, rfl, rfl⟩
/-- a constant string, or a new one: its two cells stand in h2, not in h -/
def STW (Γ : G9) (h h2 : AH) (c : Nat) (l : List Int32) : Prop := ∃ v, h c = none ∧ h v = none ∧ h2 c = some (stO v) ∧ h2 v = some (aB Γ l.length (fun j => l.getD j 0))
def STN (Γ : G9) (h h2 : AH) (c : Nat) (l : List Int32) : Prop := StOk Γ c l ∨ STW Γ h h2 c l
theorem Ext.no {h h2 : AH} (he : Ext h h2) {x : Nat} (hx : h2 x = none) : h x = none := by
  cases e : h x with
  | none => rfl
  | some w => rw [he x w e] at hx; cases hx
theorem STW.of {Γ : G9} {h h1 h2 : AH} {c : Nat} {l : List Int32} (hs : STW Γ h1 h2 c l) (he : Ext h h1) : STW Γ h h2 c l := by
  obtain ⟨v, e1, e2, e3⟩ := hs
  exact ⟨v, he.no e1, he.no e2, e3⟩
theorem STN.of {Γ : G9} {h h1 h2 : AH} {c : Nat} {l : List Int32} (hs : STN Γ h1 h2 c l) (he : Ext h h1) : STN Γ h h2 c l := by
  rcases hs with h1 | ⟨v, e1, e2, e3⟩
  · exact Or.inl h1
  · exact Or.inr ⟨v, he.no e1, he.no e2, e3⟩
theorem STN.str {Γ : G9} {h h2 : AH} {c : Nat} {l : List Int32} (hs : STN Γ h h2 c l) : STR Γ h2 c l := by
  rcases hs with h1 | ⟨v, e1, e2, e3⟩
  · exact Or.inl h1
  · exact Or.inr ⟨v, e3⟩
set_option maxRecDepth 100000 in
set_option maxHeartbeats 4000000 in
theorem c_toStr {Γ : G9} {h h0 : AH} {z b q : Nat} {t : List Int32} (hk : CsOk Γ) (hs : SB Γ h b h0 t q) : Call Γ M_StringBuilder_toString 7 2 (t.length + 4) [.ref b] h z (fun w h2 z2 => ∃ c : Nat, w = some (.ref c) ∧ Ext h h2 ∧ STW Γ h h2 c t) noX := by
  refine Call.of_go (L := [some (.ref b)]) (by decide +kernel) rfl (by exact Nat.le_of_ble_eq_true rfl) ?_
  obtain ⟨v, m, a, rfl, hbv, h0b, h0v, hn, hq0, hm, ha, hf⟩ := hs
  refine Go.low (fun hlow => ?_)
  obtain ⟨hbz, hvz, -⟩ := bd_low hbv hlow
  refine Go.new (ci := 11) (C1 := 1) (S1 := t.length) (fs := [.null, .int 0, .int 0, .int 0]) ty_String d_StringBuilder_toString_0 rfl rfl cw_String ty_String_ok x_ldStr x_insStr x_iniStr n9_fs_Str (by omega) (by omega) ?_
  refine Go.dup d_StringBuilder_toString_3 rfl rfl ?_
  refine Go.aload_0 d_StringBuilder_toString_4 rfl ?_
  refine Go.callI (C1 := 0) (S1 := 0) (as := [.ref b]) d_StringBuilder_toString_5 rfl (Or.inl l_StringBuilder_137) k_String_init_1_n rfl rfl (c_strOf1 hk ((hup_ne (by omega)).trans (bd_b hbv)) ((hup_ne (by omega)).trans bd_v) hup_at hn hm ha hf) (by omega) (by decide) (by omega) (by omega) (Nat.le_of_ble_eq_true rfl) (fun _ _ _ w _ => w.elim) (fun v9 h9 z9 w9 hz9 => ?_)
  obtain ⟨rfl, rfl, rfl⟩ := w9
  rw [hup_hup]
  exact Go.aret d_StringBuilder_toString_8 rfl ⟨z, rfl, (Ext.up (hlow z (Nat.le_refl z))).tr (Ext.up ((hup_ne (by omega)).trans (hlow (z + 1) (by omega)))), ⟨z + 1, hlow z (Nat.le_refl z), hlow (z + 1) (by omega), (hup_ne (by omega)).trans hup_at, hup_at⟩⟩
theorem d_Law_sum_48 : decode M_Law_sum.2.1 48 = .ok (.new 32, 3) := by decide +kernel
theorem d_Law_sum_51 : decode M_Law_sum.2.1 51 = .ok (.dup, 1) := by decide +kernel
theorem d_Law_sum_52 : decode M_Law_sum.2.1 52 = .ok (.invokespecial 34, 3) := by decide +kernel
theorem d_Law_sum_55 : decode M_Law_sum.2.1 55 = .ok (.ldc 35, 2) := by decide +kernel
theorem d_Law_sum_57 : decode M_Law_sum.2.1 57 = .ok (.invokevirtual 37, 3) := by decide +kernel
theorem d_Law_sum_60 : decode M_Law_sum.2.1 60 = .ok (.iload_n 1, 1) := by decide +kernel
theorem d_Law_sum_61 : decode M_Law_sum.2.1 61 = .ok (.invokevirtual 41, 3) := by decide +kernel
theorem d_Law_sum_64 : decode M_Law_sum.2.1 64 = .ok (.invokevirtual 44, 3) := by decide +kernel
theorem d_Law_sum_67 : decode M_Law_sum.2.1 67 = .ok (.areturn, 1) := by decide +kernel
theorem d_Law_sum_68 : decode M_Law_sum.2.1 68 = .ok (.new 32, 3) := by decide +kernel
theorem d_Law_sum_71 : decode M_Law_sum.2.1 71 = .ok (.dup, 1) := by decide +kernel
theorem d_Law_sum_72 : decode M_Law_sum.2.1 72 = .ok (.invokespecial 34, 3) := by decide +kernel
theorem d_Law_sum_75 : decode M_Law_sum.2.1 75 = .ok (.ldc 48, 2) := by decide +kernel
theorem d_Law_sum_77 : decode M_Law_sum.2.1 77 = .ok (.invokevirtual 37, 3) := by decide +kernel
theorem d_Law_sum_80 : decode M_Law_sum.2.1 80 = .ok (.aload_n 0, 1) := by decide +kernel
theorem d_Law_sum_81 : decode M_Law_sum.2.1 81 = .ok (.bipush 9, 2) := by decide +kernel
theorem d_Law_sum_83 : decode M_Law_sum.2.1 83 = .ok (.iaload, 1) := by decide +kernel
theorem d_Law_sum_84 : decode M_Law_sum.2.1 84 = .ok (.invokevirtual 41, 3) := by decide +kernel
theorem d_Law_sum_87 : decode M_Law_sum.2.1 87 = .ok (.invokevirtual 44, 3) := by decide +kernel
theorem d_Law_sum_90 : decode M_Law_sum.2.1 90 = .ok (.areturn, 1) := by decide +kernel
theorem d_Law_sum_91 : decode M_Law_sum.2.1 91 = .ok (.new 32, 3) := by decide +kernel
theorem d_Law_sum_94 : decode M_Law_sum.2.1 94 = .ok (.dup, 1) := by decide +kernel
theorem d_Law_sum_95 : decode M_Law_sum.2.1 95 = .ok (.invokespecial 34, 3) := by decide +kernel
theorem d_Law_sum_98 : decode M_Law_sum.2.1 98 = .ok (.ldc 50, 2) := by decide +kernel
theorem d_Law_sum_100 : decode M_Law_sum.2.1 100 = .ok (.invokevirtual 37, 3) := by decide +kernel
theorem d_Law_sum_103 : decode M_Law_sum.2.1 103 = .ok (.aload_n 0, 1) := by decide +kernel
theorem d_Law_sum_104 : decode M_Law_sum.2.1 104 = .ok (.bipush 10, 2) := by decide +kernel
theorem d_Law_sum_106 : decode M_Law_sum.2.1 106 = .ok (.iaload, 1) := by decide +kernel
theorem d_Law_sum_107 : decode M_Law_sum.2.1 107 = .ok (.invokevirtual 41, 3) := by decide +kernel
theorem d_Law_sum_110 : decode M_Law_sum.2.1 110 = .ok (.ldc 52, 2) := by decide +kernel
theorem d_Law_sum_112 : decode M_Law_sum.2.1 112 = .ok (.invokevirtual 37, 3) := by decide +kernel
theorem d_Law_sum_115 : decode M_Law_sum.2.1 115 = .ok (.iload_n 1, 1) := by decide +kernel
theorem d_Law_sum_116 : decode M_Law_sum.2.1 116 = .ok (.invokevirtual 41, 3) := by decide +kernel
theorem d_Law_sum_119 : decode M_Law_sum.2.1 119 = .ok (.ldc 54, 2) := by decide +kernel
theorem d_Law_sum_121 : decode M_Law_sum.2.1 121 = .ok (.invokevirtual 37, 3) := by decide +kernel
theorem d_Law_sum_124 : decode M_Law_sum.2.1 124 = .ok (.invokevirtual 44, 3) := by decide +kernel
theorem d_Law_sum_127 : decode M_Law_sum.2.1 127 = .ok (.areturn, 1) := by decide +kernel
theorem d_Law_sum_128 : decode M_Law_sum.2.1 128 = .ok (.new 32, 3) := by decide +kernel
theorem d_Law_sum_131 : decode M_Law_sum.2.1 131 = .ok (.dup, 1) := by decide +kernel
theorem d_Law_sum_132 : decode M_Law_sum.2.1 132 = .ok (.invokespecial 34, 3) := by decide +kernel
theorem d_Law_sum_135 : decode M_Law_sum.2.1 135 = .ok (.ldc 56, 2) := by decide +kernel
theorem d_Law_sum_137 : decode M_Law_sum.2.1 137 = .ok (.invokevirtual 37, 3) := by decide +kernel
theorem d_Law_sum_140 : decode M_Law_sum.2.1 140 = .ok (.iload_n 1, 1) := by decide +kernel
theorem d_Law_sum_141 : decode M_Law_sum.2.1 141 = .ok (.invokevirtual 41, 3) := by decide +kernel
theorem d_Law_sum_144 : decode M_Law_sum.2.1 144 = .ok (.invokevirtual 44, 3) := by decide +kernel
theorem d_Law_sum_147 : decode M_Law_sum.2.1 147 = .ok (.areturn, 1) := by decide +kernel
theorem d_Law_sum_148 : decode M_Law_sum.2.1 148 = .ok (.new 32, 3) := by decide +kernel
theorem d_Law_sum_151 : decode M_Law_sum.2.1 151 = .ok (.dup, 1) := by decide +kernel
theorem d_Law_sum_152 : decode M_Law_sum.2.1 152 = .ok (.invokespecial 34, 3) := by decide +kernel
theorem d_Law_sum_155 : decode M_Law_sum.2.1 155 = .ok (.ldc 58, 2) := by decide +kernel
theorem d_Law_sum_157 : decode M_Law_sum.2.1 157 = .ok (.invokevirtual 37, 3) := by decide +kernel
theorem d_Law_sum_160 : decode M_Law_sum.2.1 160 = .ok (.aload_n 0, 1) := by decide +kernel
theorem d_Law_sum_161 : decode M_Law_sum.2.1 161 = .ok (.bipush 9, 2) := by decide +kernel
theorem d_Law_sum_163 : decode M_Law_sum.2.1 163 = .ok (.iaload, 1) := by decide +kernel
theorem d_Law_sum_164 : decode M_Law_sum.2.1 164 = .ok (.invokevirtual 41, 3) := by decide +kernel
theorem d_Law_sum_167 : decode M_Law_sum.2.1 167 = .ok (.ldc 60, 2) := by decide +kernel
theorem d_Law_sum_169 : decode M_Law_sum.2.1 169 = .ok (.invokevirtual 37, 3) := by decide +kernel
theorem d_Law_sum_172 : decode M_Law_sum.2.1 172 = .ok (.iload_n 1, 1) := by decide +kernel
theorem d_Law_sum_173 : decode M_Law_sum.2.1 173 = .ok (.invokevirtual 41, 3) := by decide +kernel
theorem d_Law_sum_176 : decode M_Law_sum.2.1 176 = .ok (.invokevirtual 44, 3) := by decide +kernel
theorem d_Law_sum_179 : decode M_Law_sum.2.1 179 = .ok (.areturn, 1) := by decide +kernel
theorem d_Law_sum_180 : decode M_Law_sum.2.1 180 = .ok (.new 32, 3) := by decide +kernel
theorem d_Law_sum_183 : decode M_Law_sum.2.1 183 = .ok (.dup, 1) := by decide +kernel
theorem d_Law_sum_184 : decode M_Law_sum.2.1 184 = .ok (.invokespecial 34, 3) := by decide +kernel
theorem d_Law_sum_187 : decode M_Law_sum.2.1 187 = .ok (.ldc 62, 2) := by decide +kernel
theorem d_Law_sum_189 : decode M_Law_sum.2.1 189 = .ok (.invokevirtual 37, 3) := by decide +kernel
theorem d_Law_sum_192 : decode M_Law_sum.2.1 192 = .ok (.aload_n 0, 1) := by decide +kernel
theorem d_Law_sum_193 : decode M_Law_sum.2.1 193 = .ok (.bipush 7, 2) := by decide +kernel
theorem d_Law_sum_195 : decode M_Law_sum.2.1 195 = .ok (.iaload, 1) := by decide +kernel
theorem d_Law_sum_196 : decode M_Law_sum.2.1 196 = .ok (.invokevirtual 41, 3) := by decide +kernel
theorem d_Law_sum_199 : decode M_Law_sum.2.1 199 = .ok (.ldc 64, 2) := by decide +kernel
theorem d_Law_sum_201 : decode M_Law_sum.2.1 201 = .ok (.invokevirtual 37, 3) := by decide +kernel
theorem d_Law_sum_204 : decode M_Law_sum.2.1 204 = .ok (.iload_n 1, 1) := by decide +kernel
theorem d_Law_sum_205 : decode M_Law_sum.2.1 205 = .ok (.invokevirtual 41, 3) := by decide +kernel
theorem d_Law_sum_208 : decode M_Law_sum.2.1 208 = .ok (.invokevirtual 44, 3) := by decide +kernel
theorem d_Law_sum_211 : decode M_Law_sum.2.1 211 = .ok (.areturn, 1) := by decide +kernel
theorem d_Law_sum_212 : decode M_Law_sum.2.1 212 = .ok (.new 32, 3) := by decide +kernel
theorem d_Law_sum_215 : decode M_Law_sum.2.1 215 = .ok (.dup, 1) := by decide +kernel
theorem d_Law_sum_216 : decode M_Law_sum.2.1 216 = .ok (.invokespecial 34, 3) := by decide +kernel
theorem d_Law_sum_219 : decode M_Law_sum.2.1 219 = .ok (.ldc 66, 2) := by decide +kernel
theorem d_Law_sum_221 : decode M_Law_sum.2.1 221 = .ok (.invokevirtual 37, 3) := by decide +kernel
theorem d_Law_sum_224 : decode M_Law_sum.2.1 224 = .ok (.aload_n 0, 1) := by decide +kernel
theorem d_Law_sum_225 : decode M_Law_sum.2.1 225 = .ok (.bipush 11, 2) := by decide +kernel
theorem d_Law_sum_227 : decode M_Law_sum.2.1 227 = .ok (.iaload, 1) := by decide +kernel
theorem d_Law_sum_228 : decode M_Law_sum.2.1 228 = .ok (.invokevirtual 41, 3) := by decide +kernel
theorem d_Law_sum_231 : decode M_Law_sum.2.1 231 = .ok (.ldc 68, 2) := by decide +kernel
theorem d_Law_sum_233 : decode M_Law_sum.2.1 233 = .ok (.invokevirtual 37, 3) := by decide +kernel
theorem d_Law_sum_236 : decode M_Law_sum.2.1 236 = .ok (.iload_n 1, 1) := by decide +kernel
theorem d_Law_sum_237 : decode M_Law_sum.2.1 237 = .ok (.invokevirtual 41, 3) := by decide +kernel
theorem d_Law_sum_240 : decode M_Law_sum.2.1 240 = .ok (.invokevirtual 44, 3) := by decide +kernel
theorem d_Law_sum_243 : decode M_Law_sum.2.1 243 = .ok (.areturn, 1) := by decide +kernel
theorem d_Law_sum_244 : decode M_Law_sum.2.1 244 = .ok (.new 32, 3) := by decide +kernel
theorem d_Law_sum_247 : decode M_Law_sum.2.1 247 = .ok (.dup, 1) := by decide +kernel
theorem d_Law_sum_248 : decode M_Law_sum.2.1 248 = .ok (.invokespecial 34, 3) := by decide +kernel
theorem d_Law_sum_251 : decode M_Law_sum.2.1 251 = .ok (.ldc 70, 2) := by decide +kernel
theorem d_Law_sum_253 : decode M_Law_sum.2.1 253 = .ok (.invokevirtual 37, 3) := by decide +kernel
theorem d_Law_sum_256 : decode M_Law_sum.2.1 256 = .ok (.aload_n 0, 1) := by decide +kernel
theorem d_Law_sum_257 : decode M_Law_sum.2.1 257 = .ok (.bipush 8, 2) := by decide +kernel
theorem d_Law_sum_259 : decode M_Law_sum.2.1 259 = .ok (.iaload, 1) := by decide +kernel
theorem d_Law_sum_260 : decode M_Law_sum.2.1 260 = .ok (.invokevirtual 41, 3) := by decide +kernel
theorem d_Law_sum_263 : decode M_Law_sum.2.1 263 = .ok (.ldc 72, 2) := by decide +kernel
theorem d_Law_sum_265 : decode M_Law_sum.2.1 265 = .ok (.invokevirtual 37, 3) := by decide +kernel
theorem d_Law_sum_268 : decode M_Law_sum.2.1 268 = .ok (.iload_n 1, 1) := by decide +kernel
theorem d_Law_sum_269 : decode M_Law_sum.2.1 269 = .ok (.invokevirtual 41, 3) := by decide +kernel
theorem d_Law_sum_272 : decode M_Law_sum.2.1 272 = .ok (.ldc 54, 2) := by decide +kernel
theorem d_Law_sum_274 : decode M_Law_sum.2.1 274 = .ok (.invokevirtual 37, 3) := by decide +kernel
theorem d_Law_sum_277 : decode M_Law_sum.2.1 277 = .ok (.invokevirtual 44, 3) := by decide +kernel
theorem d_Law_sum_280 : decode M_Law_sum.2.1 280 = .ok (.areturn, 1) := by decide +kernel
/-- the text of an order's sum -/
def sumT (o : Nat → Nat) : List Int32 := if o 3 = 0 then (([] ++ tx35) ++ dec (o 4)) else if o 3 = 1 then (([] ++ tx48) ++ dec (o 9)) else if o 3 = 2 then ((((([] ++ tx50) ++ dec (o 10)) ++ tx52) ++ dec (o 4)) ++ tx54) else if o 3 = 3 then (([] ++ tx56) ++ dec (o 4)) else if o 3 = 4 then (((([] ++ tx58) ++ dec (o 9)) ++ tx60) ++ dec (o 4)) else if o 3 = 5 then (((([] ++ tx62) ++ dec (o 7)) ++ tx64) ++ dec (o 4)) else if o 3 = 6 then (((([] ++ tx66) ++ dec (o 11)) ++ tx68) ++ dec (o 4)) else ((((([] ++ tx70) ++ dec (o 8)) ++ tx72) ++ dec (o 4)) ++ tx54)
theorem d_Law_sum_0 : decode M_Law_sum.2.1 0 = .ok (.aload_n 0, 1) := by decide +kernel
theorem d_Law_sum_1 : decode M_Law_sum.2.1 1 = .ok (.iconst 4, 1) := by decide +kernel
theorem d_Law_sum_2 : decode M_Law_sum.2.1 2 = .ok (.iaload, 1) := by decide +kernel
theorem d_Law_sum_3 : decode M_Law_sum.2.1 3 = .ok (.istore_n 1, 1) := by decide +kernel
theorem d_Law_sum_4 : decode M_Law_sum.2.1 4 = .ok (.aload_n 0, 1) := by decide +kernel
theorem d_Law_sum_5 : decode M_Law_sum.2.1 5 = .ok (.iconst 3, 1) := by decide +kernel
theorem d_Law_sum_6 : decode M_Law_sum.2.1 6 = .ok (.iaload, 1) := by decide +kernel
theorem d_Law_sum_7 : decode M_Law_sum.2.1 7 = .ok (.tableswitch 237 0 6 #[41, 61, 84, 121, 141, 173, 205], 41) := by decide +kernel
set_option maxRecDepth 100000 in
set_option maxHeartbeats 4000000 in
theorem c_sum {Γ : G9} {ls : Nat → Nat} {h : AH} {z oa : Nat} {f : Nat → Int32} {o : Nat → Nat} (hk : CsOk Γ) (hp : PrOk Γ) (hdg : DgOk Γ) (hls : LsOk Γ ls) (ho : h oa = some (aI Γ 12 f)) (hf : ∀ j, j ≠ 5 → f j = nI (o j)) (hob : ∀ j, o j < 100) (h3 : o 3 < 8) : Call Γ M_Law_sum 8 9 12200 [.ref oa] h z (fun w h2 _ => ∃ c : Nat, w = some (.ref c) ∧ Ext h h2 ∧ STN Γ h h2 c (sumT o)) noX := by
  have dl := fun j => dec_2 (hob j)
  have d4 := dl 4
  have d6 := dl 6
  have d7 := dl 7
  have d8 := dl 8
  have d9 := dl 9
  have d10 := dl 10
  have d11 := dl 11
  have b4 := hob 4
  have b6 := hob 6
  have b7 := hob 7
  have b8 := hob 8
  have b9 := hob 9
  have b10 := hob 10
  have b11 := hob 11
  refine Call.of_go (L := [some (.ref oa), none]) (by decide +kernel) rfl (by exact Nat.le_of_ble_eq_true rfl) ?_
  unfold sumT
  refine Go.aload_0 d_Law_sum_0 rfl ?_
  refine Go.iconst (v := 4) d_Law_sum_1 rfl (by decide) ?_
  refine Go.iaload d_Law_sum_2 rfl ho (okI_in (by decide)) ?_
  rw [show (4 : Int32).toNatClampNeg = 4 from by decide, hf 4 (by decide)]
  refine Go.istore_1 d_Law_sum_3 rfl (by rfl) ?_
  refine Go.aload_0 d_Law_sum_4 rfl ?_
  refine Go.iconst (v := 3) d_Law_sum_5 rfl (by decide) ?_
  refine Go.iaload d_Law_sum_6 rfl ho (okI_in (by decide)) ?_
  rw [show (3 : Int32).toNatClampNeg = 3 from by decide, hf 3 (by decide)]
  by_cases e0 : o 3 = 0
  · rw [if_pos e0]
    refine Go.tsw (t := 48) d_Law_sum_7 (by rw [e0]; rfl) ?_
    refine Go.low (fun hlow => ?_)
    refine Go.new (ci := 10) (C1 := 8) (S1 := 12196) (fs := [.null, .int 0, .int 0, .int 0]) ty_StringBuilder d_Law_sum_48 rfl rfl cw_StringBuilder ty_StringBuilder_ok x_lkSB x_insSB x_iniSB n9_fs_SB (by omega) (by omega) ?_
    refine Go.dup d_Law_sum_51 rfl rfl ?_
    refine Go.callI (C1 := 7) (S1 := 12180) (as := []) d_Law_sum_52 rfl (Or.inl l_Law_34) k_StringBuilder_init_n rfl rfl (c_sb_init hk hup_at) (by decide) (by decide) (by omega) (by omega) (Nat.le_of_ble_eq_true rfl) (fun _ _ _ w _ => w.elim) (fun v9 h9 z9 w9 hz9 => ?_)
    obtain ⟨rfl, hs, rfl⟩ := w9
    rw [hdel_up (hlow _ (Nat.le_refl _))] at hs
    clear hz9
    refine Go.ldcS d_Law_sum_55 rfl rfl (hls.t35).1 ?_
    obtain ⟨v8, n8, hb⟩ := hs.obj
    refine Go.callV (C1 := 6) (S1 := 9778) (as := [.ref (ls 35)]) d_Law_sum_57 rfl l_Law_37 k_StringBuilder_append_1_v rfl hb rfl rfl (c_append hk hp hs (Or.inl (hls.t35).2) LB_tx35 (by simp only [List.length_append, List.length_nil, len_tx35, len_tx48, len_tx50, len_tx52, len_tx54, len_tx56, len_tx58, len_tx60, len_tx62, len_tx64, len_tx66, len_tx68, len_tx70, len_tx72, len_tx74, len_tx76, len_tx78, len_tx80, len_tx82, len_tx84, len_tx86, len_tx88, len_tx90, len_tx92, len_tx94, len_tx96, len_tx98, len_tx100, len_tx102, len_tx104, len_tx106, len_tx108, len_tx110, len_tx112, len_tx114, len_tx135, len_tx137, len_tx139, len_tx141, len_tx143, len_tx148, len_tx150, len_tx152, len_tx157, len_tx159, len_tx161, len_tx166, len_tx168, len_tx173, len_tx175, len_tx180, len_tx182, len_tx187, len_tx189, len_tx191, len_tx193, len_tx195, len_tx197, len_tx203, len_tx208]; omega)) (by decide) (by decide) (by omega) (by omega) (by exact Nat.le_of_ble_eq_true rfl) (fun _ _ _ w _ => w.elim) (fun v9 h9 z9 w9 hz9 => ?_)
    clear hs hb hz9
    obtain ⟨rfl, hs, hz9⟩ := w9
    refine Go.iload_1 d_Law_sum_60 rfl ?_
    obtain ⟨v8, n8, hb⟩ := hs.obj
    refine Go.callV (C1 := 5) (S1 := 7376) (as := [.int (nI (o 4))]) d_Law_sum_61 rfl l_Law_41 k_StringBuilder_append_0_v rfl hb rfl rfl (c_appendI (v0 := o 4) hk hp hdg hs (by omega) (by simp only [List.length_append, List.length_nil, len_tx35, len_tx48, len_tx50, len_tx52, len_tx54, len_tx56, len_tx58, len_tx60, len_tx62, len_tx64, len_tx66, len_tx68, len_tx70, len_tx72, len_tx74, len_tx76, len_tx78, len_tx80, len_tx82, len_tx84, len_tx86, len_tx88, len_tx90, len_tx92, len_tx94, len_tx96, len_tx98, len_tx100, len_tx102, len_tx104, len_tx106, len_tx108, len_tx110, len_tx112, len_tx114, len_tx135, len_tx137, len_tx139, len_tx141, len_tx143, len_tx148, len_tx150, len_tx152, len_tx157, len_tx159, len_tx161, len_tx166, len_tx168, len_tx173, len_tx175, len_tx180, len_tx182, len_tx187, len_tx189, len_tx191, len_tx193, len_tx195, len_tx197, len_tx203, len_tx208]; omega)) (by decide) (by decide) (by omega) (by omega) (by exact Nat.le_of_ble_eq_true rfl) (fun _ _ _ w _ => w.elim) (fun v9 h9 z9 w9 hz9 => ?_)
    clear hs hb hz9
    obtain ⟨rfl, hs, hz9⟩ := w9
    obtain ⟨v8, n8, hb⟩ := hs.obj
    refine Go.callV (C1 := 3) (S1 := 7272) (as := []) d_Law_sum_64 rfl l_Law_44 k_StringBuilder_toString_v rfl hb rfl rfl (c_toStr hk hs) (by decide) (by decide) (by omega) (by simp only [List.length_append, List.length_nil, len_tx35, len_tx48, len_tx50, len_tx52, len_tx54, len_tx56, len_tx58, len_tx60, len_tx62, len_tx64, len_tx66, len_tx68, len_tx70, len_tx72, len_tx74, len_tx76, len_tx78, len_tx80, len_tx82, len_tx84, len_tx86, len_tx88, len_tx90, len_tx92, len_tx94, len_tx96, len_tx98, len_tx100, len_tx102, len_tx104, len_tx106, len_tx108, len_tx110, len_tx112, len_tx114, len_tx135, len_tx137, len_tx139, len_tx141, len_tx143, len_tx148, len_tx150, len_tx152, len_tx157, len_tx159, len_tx161, len_tx166, len_tx168, len_tx173, len_tx175, len_tx180, len_tx182, len_tx187, len_tx189, len_tx191, len_tx193, len_tx195, len_tx197, len_tx203, len_tx208]; omega) (by exact Nat.le_of_ble_eq_true rfl) (fun _ _ _ w _ => w.elim) (fun v9 h9 z9 w9 hz9 => ?_)
    obtain ⟨c9, rfl, he9, hst9⟩ := w9
    exact Go.aret d_Law_sum_67 rfl ⟨c9, rfl, hs.rd.tr he9, Or.inr (hst9.of hs.rd)⟩
  rw [if_neg e0]
  by_cases e1 : o 3 = 1
  · rw [if_pos e1]
    refine Go.tsw (t := 68) d_Law_sum_7 (by rw [e1]; rfl) ?_
    refine Go.low (fun hlow => ?_)
    refine Go.new (ci := 10) (C1 := 8) (S1 := 12196) (fs := [.null, .int 0, .int 0, .int 0]) ty_StringBuilder d_Law_sum_68 rfl rfl cw_StringBuilder ty_StringBuilder_ok x_lkSB x_insSB x_iniSB n9_fs_SB (by omega) (by omega) ?_
    refine Go.dup d_Law_sum_71 rfl rfl ?_
    refine Go.callI (C1 := 7) (S1 := 12180) (as := []) d_Law_sum_72 rfl (Or.inl l_Law_34) k_StringBuilder_init_n rfl rfl (c_sb_init hk hup_at) (by decide) (by decide) (by omega) (by omega) (Nat.le_of_ble_eq_true rfl) (fun _ _ _ w _ => w.elim) (fun v9 h9 z9 w9 hz9 => ?_)
    obtain ⟨rfl, hs, rfl⟩ := w9
    rw [hdel_up (hlow _ (Nat.le_refl _))] at hs
    clear hz9
    refine Go.ldcS d_Law_sum_75 rfl rfl (hls.t48).1 ?_
    obtain ⟨v8, n8, hb⟩ := hs.obj
    refine Go.callV (C1 := 6) (S1 := 9778) (as := [.ref (ls 48)]) d_Law_sum_77 rfl l_Law_37 k_StringBuilder_append_1_v rfl hb rfl rfl (c_append hk hp hs (Or.inl (hls.t48).2) LB_tx48 (by simp only [List.length_append, List.length_nil, len_tx35, len_tx48, len_tx50, len_tx52, len_tx54, len_tx56, len_tx58, len_tx60, len_tx62, len_tx64, len_tx66, len_tx68, len_tx70, len_tx72, len_tx74, len_tx76, len_tx78, len_tx80, len_tx82, len_tx84, len_tx86, len_tx88, len_tx90, len_tx92, len_tx94, len_tx96, len_tx98, len_tx100, len_tx102, len_tx104, len_tx106, len_tx108, len_tx110, len_tx112, len_tx114, len_tx135, len_tx137, len_tx139, len_tx141, len_tx143, len_tx148, len_tx150, len_tx152, len_tx157, len_tx159, len_tx161, len_tx166, len_tx168, len_tx173, len_tx175, len_tx180, len_tx182, len_tx187, len_tx189, len_tx191, len_tx193, len_tx195, len_tx197, len_tx203, len_tx208]; omega)) (by decide) (by decide) (by omega) (by omega) (by exact Nat.le_of_ble_eq_true rfl) (fun _ _ _ w _ => w.elim) (fun v9 h9 z9 w9 hz9 => ?_)
    clear hs hb hz9
    obtain ⟨rfl, hs, hz9⟩ := w9
    refine Go.aload_0 d_Law_sum_80 rfl ?_
    refine Go.bipush (v := 9) d_Law_sum_81 rfl (by decide) ?_
    refine Go.iaload d_Law_sum_83 rfl (hs.rd _ _ ho) (okI_in (by decide)) ?_
    rw [show (9 : Int32).toNatClampNeg = 9 from by decide, hf 9 (by decide)]
    obtain ⟨v8, n8, hb⟩ := hs.obj
    refine Go.callV (C1 := 5) (S1 := 7376) (as := [.int (nI (o 9))]) d_Law_sum_84 rfl l_Law_41 k_StringBuilder_append_0_v rfl hb rfl rfl (c_appendI (v0 := o 9) hk hp hdg hs (by omega) (by simp only [List.length_append, List.length_nil, len_tx35, len_tx48, len_tx50, len_tx52, len_tx54, len_tx56, len_tx58, len_tx60, len_tx62, len_tx64, len_tx66, len_tx68, len_tx70, len_tx72, len_tx74, len_tx76, len_tx78, len_tx80, len_tx82, len_tx84, len_tx86, len_tx88, len_tx90, len_tx92, len_tx94, len_tx96, len_tx98, len_tx100, len_tx102, len_tx104, len_tx106, len_tx108, len_tx110, len_tx112, len_tx114, len_tx135, len_tx137, len_tx139, len_tx141, len_tx143, len_tx148, len_tx150, len_tx152, len_tx157, len_tx159, len_tx161, len_tx166, len_tx168, len_tx173, len_tx175, len_tx180, len_tx182, len_tx187, len_tx189, len_tx191, len_tx193, len_tx195, len_tx197, len_tx203, len_tx208]; omega)) (by decide) (by decide) (by omega) (by omega) (by exact Nat.le_of_ble_eq_true rfl) (fun _ _ _ w _ => w.elim) (fun v9 h9 z9 w9 hz9 => ?_)
    clear hs hb hz9
    obtain ⟨rfl, hs, hz9⟩ := w9
    obtain ⟨v8, n8, hb⟩ := hs.obj
    refine Go.callV (C1 := 3) (S1 := 7272) (as := []) d_Law_sum_87 rfl l_Law_44 k_StringBuilder_toString_v rfl hb rfl rfl (c_toStr hk hs) (by decide) (by decide) (by omega) (by simp only [List.length_append, List.length_nil, len_tx35, len_tx48, len_tx50, len_tx52, len_tx54, len_tx56, len_tx58, len_tx60, len_tx62, len_tx64, len_tx66, len_tx68, len_tx70, len_tx72, len_tx74, len_tx76, len_tx78, len_tx80, len_tx82, len_tx84, len_tx86, len_tx88, len_tx90, len_tx92, len_tx94, len_tx96, len_tx98, len_tx100, len_tx102, len_tx104, len_tx106, len_tx108, len_tx110, len_tx112, len_tx114, len_tx135, len_tx137, len_tx139, len_tx141, len_tx143, len_tx148, len_tx150, len_tx152, len_tx157, len_tx159, len_tx161, len_tx166, len_tx168, len_tx173, len_tx175, len_tx180, len_tx182, len_tx187, len_tx189, len_tx191, len_tx193, len_tx195, len_tx197, len_tx203, len_tx208]; omega) (by exact Nat.le_of_ble_eq_true rfl) (fun _ _ _ w _ => w.elim) (fun v9 h9 z9 w9 hz9 => ?_)
    obtain ⟨c9, rfl, he9, hst9⟩ := w9
    exact Go.aret d_Law_sum_90 rfl ⟨c9, rfl, hs.rd.tr he9, Or.inr (hst9.of hs.rd)⟩
  rw [if_neg e1]
  by_cases e2 : o 3 = 2
  · rw [if_pos e2]
    refine Go.tsw (t := 91) d_Law_sum_7 (by rw [e2]; rfl) ?_
    refine Go.low (fun hlow => ?_)
    refine Go.new (ci := 10) (C1 := 8) (S1 := 12196) (fs := [.null, .int 0, .int 0, .int 0]) ty_StringBuilder d_Law_sum_91 rfl rfl cw_StringBuilder ty_StringBuilder_ok x_lkSB x_insSB x_iniSB n9_fs_SB (by omega) (by omega) ?_
    refine Go.dup d_Law_sum_94 rfl rfl ?_
    refine Go.callI (C1 := 7) (S1 := 12180) (as := []) d_Law_sum_95 rfl (Or.inl l_Law_34) k_StringBuilder_init_n rfl rfl (c_sb_init hk hup_at) (by decide) (by decide) (by omega) (by omega) (Nat.le_of_ble_eq_true rfl) (fun _ _ _ w _ => w.elim) (fun v9 h9 z9 w9 hz9 => ?_)
    obtain ⟨rfl, hs, rfl⟩ := w9
    rw [hdel_up (hlow _ (Nat.le_refl _))] at hs
    clear hz9
    refine Go.ldcS d_Law_sum_98 rfl rfl (hls.t50).1 ?_
    obtain ⟨v8, n8, hb⟩ := hs.obj
    refine Go.callV (C1 := 6) (S1 := 9778) (as := [.ref (ls 50)]) d_Law_sum_100 rfl l_Law_37 k_StringBuilder_append_1_v rfl hb rfl rfl (c_append hk hp hs (Or.inl (hls.t50).2) LB_tx50 (by simp only [List.length_append, List.length_nil, len_tx35, len_tx48, len_tx50, len_tx52, len_tx54, len_tx56, len_tx58, len_tx60, len_tx62, len_tx64, len_tx66, len_tx68, len_tx70, len_tx72, len_tx74, len_tx76, len_tx78, len_tx80, len_tx82, len_tx84, len_tx86, len_tx88, len_tx90, len_tx92, len_tx94, len_tx96, len_tx98, len_tx100, len_tx102, len_tx104, len_tx106, len_tx108, len_tx110, len_tx112, len_tx114, len_tx135, len_tx137, len_tx139, len_tx141, len_tx143, len_tx148, len_tx150, len_tx152, len_tx157, len_tx159, len_tx161, len_tx166, len_tx168, len_tx173, len_tx175, len_tx180, len_tx182, len_tx187, len_tx189, len_tx191, len_tx193, len_tx195, len_tx197, len_tx203, len_tx208]; omega)) (by decide) (by decide) (by omega) (by omega) (by exact Nat.le_of_ble_eq_true rfl) (fun _ _ _ w _ => w.elim) (fun v9 h9 z9 w9 hz9 => ?_)
    clear hs hb hz9
    obtain ⟨rfl, hs, hz9⟩ := w9
    refine Go.aload_0 d_Law_sum_103 rfl ?_
    refine Go.bipush (v := 10) d_Law_sum_104 rfl (by decide) ?_
    refine Go.iaload d_Law_sum_106 rfl (hs.rd _ _ ho) (okI_in (by decide)) ?_
    rw [show (10 : Int32).toNatClampNeg = 10 from by decide, hf 10 (by decide)]
    obtain ⟨v8, n8, hb⟩ := hs.obj
    refine Go.callV (C1 := 5) (S1 := 7376) (as := [.int (nI (o 10))]) d_Law_sum_107 rfl l_Law_41 k_StringBuilder_append_0_v rfl hb rfl rfl (c_appendI (v0 := o 10) hk hp hdg hs (by omega) (by simp only [List.length_append, List.length_nil, len_tx35, len_tx48, len_tx50, len_tx52, len_tx54, len_tx56, len_tx58, len_tx60, len_tx62, len_tx64, len_tx66, len_tx68, len_tx70, len_tx72, len_tx74, len_tx76, len_tx78, len_tx80, len_tx82, len_tx84, len_tx86, len_tx88, len_tx90, len_tx92, len_tx94, len_tx96, len_tx98, len_tx100, len_tx102, len_tx104, len_tx106, len_tx108, len_tx110, len_tx112, len_tx114, len_tx135, len_tx137, len_tx139, len_tx141, len_tx143, len_tx148, len_tx150, len_tx152, len_tx157, len_tx159, len_tx161, len_tx166, len_tx168, len_tx173, len_tx175, len_tx180, len_tx182, len_tx187, len_tx189, len_tx191, len_tx193, len_tx195, len_tx197, len_tx203, len_tx208]; omega)) (by decide) (by decide) (by omega) (by omega) (by exact Nat.le_of_ble_eq_true rfl) (fun _ _ _ w _ => w.elim) (fun v9 h9 z9 w9 hz9 => ?_)
    clear hs hb hz9
    obtain ⟨rfl, hs, hz9⟩ := w9
    refine Go.ldcS d_Law_sum_110 rfl rfl (hls.t52).1 ?_
    obtain ⟨v8, n8, hb⟩ := hs.obj
    refine Go.callV (C1 := 4) (S1 := 4974) (as := [.ref (ls 52)]) d_Law_sum_112 rfl l_Law_37 k_StringBuilder_append_1_v rfl hb rfl rfl (c_append hk hp hs (Or.inl (hls.t52).2) LB_tx52 (by simp only [List.length_append, List.length_nil, len_tx35, len_tx48, len_tx50, len_tx52, len_tx54, len_tx56, len_tx58, len_tx60, len_tx62, len_tx64, len_tx66, len_tx68, len_tx70, len_tx72, len_tx74, len_tx76, len_tx78, len_tx80, len_tx82, len_tx84, len_tx86, len_tx88, len_tx90, len_tx92, len_tx94, len_tx96, len_tx98, len_tx100, len_tx102, len_tx104, len_tx106, len_tx108, len_tx110, len_tx112, len_tx114, len_tx135, len_tx137, len_tx139, len_tx141, len_tx143, len_tx148, len_tx150, len_tx152, len_tx157, len_tx159, len_tx161, len_tx166, len_tx168, len_tx173, len_tx175, len_tx180, len_tx182, len_tx187, len_tx189, len_tx191, len_tx193, len_tx195, len_tx197, len_tx203, len_tx208]; omega)) (by decide) (by decide) (by omega) (by omega) (by exact Nat.le_of_ble_eq_true rfl) (fun _ _ _ w _ => w.elim) (fun v9 h9 z9 w9 hz9 => ?_)
    clear hs hb hz9
    obtain ⟨rfl, hs, hz9⟩ := w9
    refine Go.iload_1 d_Law_sum_115 rfl ?_
    obtain ⟨v8, n8, hb⟩ := hs.obj
    refine Go.callV (C1 := 3) (S1 := 2572) (as := [.int (nI (o 4))]) d_Law_sum_116 rfl l_Law_41 k_StringBuilder_append_0_v rfl hb rfl rfl (c_appendI (v0 := o 4) hk hp hdg hs (by omega) (by simp only [List.length_append, List.length_nil, len_tx35, len_tx48, len_tx50, len_tx52, len_tx54, len_tx56, len_tx58, len_tx60, len_tx62, len_tx64, len_tx66, len_tx68, len_tx70, len_tx72, len_tx74, len_tx76, len_tx78, len_tx80, len_tx82, len_tx84, len_tx86, len_tx88, len_tx90, len_tx92, len_tx94, len_tx96, len_tx98, len_tx100, len_tx102, len_tx104, len_tx106, len_tx108, len_tx110, len_tx112, len_tx114, len_tx135, len_tx137, len_tx139, len_tx141, len_tx143, len_tx148, len_tx150, len_tx152, len_tx157, len_tx159, len_tx161, len_tx166, len_tx168, len_tx173, len_tx175, len_tx180, len_tx182, len_tx187, len_tx189, len_tx191, len_tx193, len_tx195, len_tx197, len_tx203, len_tx208]; omega)) (by decide) (by decide) (by omega) (by omega) (by exact Nat.le_of_ble_eq_true rfl) (fun _ _ _ w _ => w.elim) (fun v9 h9 z9 w9 hz9 => ?_)
    clear hs hb hz9
    obtain ⟨rfl, hs, hz9⟩ := w9
    refine Go.ldcS d_Law_sum_119 rfl rfl (hls.t54).1 ?_
    obtain ⟨v8, n8, hb⟩ := hs.obj
    refine Go.callV (C1 := 2) (S1 := 170) (as := [.ref (ls 54)]) d_Law_sum_121 rfl l_Law_37 k_StringBuilder_append_1_v rfl hb rfl rfl (c_append hk hp hs (Or.inl (hls.t54).2) LB_tx54 (by simp only [List.length_append, List.length_nil, len_tx35, len_tx48, len_tx50, len_tx52, len_tx54, len_tx56, len_tx58, len_tx60, len_tx62, len_tx64, len_tx66, len_tx68, len_tx70, len_tx72, len_tx74, len_tx76, len_tx78, len_tx80, len_tx82, len_tx84, len_tx86, len_tx88, len_tx90, len_tx92, len_tx94, len_tx96, len_tx98, len_tx100, len_tx102, len_tx104, len_tx106, len_tx108, len_tx110, len_tx112, len_tx114, len_tx135, len_tx137, len_tx139, len_tx141, len_tx143, len_tx148, len_tx150, len_tx152, len_tx157, len_tx159, len_tx161, len_tx166, len_tx168, len_tx173, len_tx175, len_tx180, len_tx182, len_tx187, len_tx189, len_tx191, len_tx193, len_tx195, len_tx197, len_tx203, len_tx208]; omega)) (by decide) (by decide) (by omega) (by omega) (by exact Nat.le_of_ble_eq_true rfl) (fun _ _ _ w _ => w.elim) (fun v9 h9 z9 w9 hz9 => ?_)
    clear hs hb hz9
    obtain ⟨rfl, hs, hz9⟩ := w9
    obtain ⟨v8, n8, hb⟩ := hs.obj
    refine Go.callV (C1 := 0) (S1 := 66) (as := []) d_Law_sum_124 rfl l_Law_44 k_StringBuilder_toString_v rfl hb rfl rfl (c_toStr hk hs) (by decide) (by decide) (by omega) (by simp only [List.length_append, List.length_nil, len_tx35, len_tx48, len_tx50, len_tx52, len_tx54, len_tx56, len_tx58, len_tx60, len_tx62, len_tx64, len_tx66, len_tx68, len_tx70, len_tx72, len_tx74, len_tx76, len_tx78, len_tx80, len_tx82, len_tx84, len_tx86, len_tx88, len_tx90, len_tx92, len_tx94, len_tx96, len_tx98, len_tx100, len_tx102, len_tx104, len_tx106, len_tx108, len_tx110, len_tx112, len_tx114, len_tx135, len_tx137, len_tx139, len_tx141, len_tx143, len_tx148, len_tx150, len_tx152, len_tx157, len_tx159, len_tx161, len_tx166, len_tx168, len_tx173, len_tx175, len_tx180, len_tx182, len_tx187, len_tx189, len_tx191, len_tx193, len_tx195, len_tx197, len_tx203, len_tx208]; omega) (by exact Nat.le_of_ble_eq_true rfl) (fun _ _ _ w _ => w.elim) (fun v9 h9 z9 w9 hz9 => ?_)
    obtain ⟨c9, rfl, he9, hst9⟩ := w9
    exact Go.aret d_Law_sum_127 rfl ⟨c9, rfl, hs.rd.tr he9, Or.inr (hst9.of hs.rd)⟩
  rw [if_neg e2]
  by_cases e3 : o 3 = 3
  · rw [if_pos e3]
    refine Go.tsw (t := 128) d_Law_sum_7 (by rw [e3]; rfl) ?_
    refine Go.low (fun hlow => ?_)
    refine Go.new (ci := 10) (C1 := 8) (S1 := 12196) (fs := [.null, .int 0, .int 0, .int 0]) ty_StringBuilder d_Law_sum_128 rfl rfl cw_StringBuilder ty_StringBuilder_ok x_lkSB x_insSB x_iniSB n9_fs_SB (by omega) (by omega) ?_
    refine Go.dup d_Law_sum_131 rfl rfl ?_
    refine Go.callI (C1 := 7) (S1 := 12180) (as := []) d_Law_sum_132 rfl (Or.inl l_Law_34) k_StringBuilder_init_n rfl rfl (c_sb_init hk hup_at) (by decide) (by decide) (by omega) (by omega) (Nat.le_of_ble_eq_true rfl) (fun _ _ _ w _ => w.elim) (fun v9 h9 z9 w9 hz9 => ?_)
    obtain ⟨rfl, hs, rfl⟩ := w9
    rw [hdel_up (hlow _ (Nat.le_refl _))] at hs
    clear hz9
    refine Go.ldcS d_Law_sum_135 rfl rfl (hls.t56).1 ?_
    obtain ⟨v8, n8, hb⟩ := hs.obj
    refine Go.callV (C1 := 6) (S1 := 9778) (as := [.ref (ls 56)]) d_Law_sum_137 rfl l_Law_37 k_StringBuilder_append_1_v rfl hb rfl rfl (c_append hk hp hs (Or.inl (hls.t56).2) LB_tx56 (by simp only [List.length_append, List.length_nil, len_tx35, len_tx48, len_tx50, len_tx52, len_tx54, len_tx56, len_tx58, len_tx60, len_tx62, len_tx64, len_tx66, len_tx68, len_tx70, len_tx72, len_tx74, len_tx76, len_tx78, len_tx80, len_tx82, len_tx84, len_tx86, len_tx88, len_tx90, len_tx92, len_tx94, len_tx96, len_tx98, len_tx100, len_tx102, len_tx104, len_tx106, len_tx108, len_tx110, len_tx112, len_tx114, len_tx135, len_tx137, len_tx139, len_tx141, len_tx143, len_tx148, len_tx150, len_tx152, len_tx157, len_tx159, len_tx161, len_tx166, len_tx168, len_tx173, len_tx175, len_tx180, len_tx182, len_tx187, len_tx189, len_tx191, len_tx193, len_tx195, len_tx197, len_tx203, len_tx208]; omega)) (by decide) (by decide) (by omega) (by omega) (by exact Nat.le_of_ble_eq_true rfl) (fun _ _ _ w _ => w.elim) (fun v9 h9 z9 w9 hz9 => ?_)
    clear hs hb hz9
    obtain ⟨rfl, hs, hz9⟩ := w9
    refine Go.iload_1 d_Law_sum_140 rfl ?_
    obtain ⟨v8, n8, hb⟩ := hs.obj
    refine Go.callV (C1 := 5) (S1 := 7376) (as := [.int (nI (o 4))]) d_Law_sum_141 rfl l_Law_41 k_StringBuilder_append_0_v rfl hb rfl rfl (c_appendI (v0 := o 4) hk hp hdg hs (by omega) (by simp only [List.length_append, List.length_nil, len_tx35, len_tx48, len_tx50, len_tx52, len_tx54, len_tx56, len_tx58, len_tx60, len_tx62, len_tx64, len_tx66, len_tx68, len_tx70, len_tx72, len_tx74, len_tx76, len_tx78, len_tx80, len_tx82, len_tx84, len_tx86, len_tx88, len_tx90, len_tx92, len_tx94, len_tx96, len_tx98, len_tx100, len_tx102, len_tx104, len_tx106, len_tx108, len_tx110, len_tx112, len_tx114, len_tx135, len_tx137, len_tx139, len_tx141, len_tx143, len_tx148, len_tx150, len_tx152, len_tx157, len_tx159, len_tx161, len_tx166, len_tx168, len_tx173, len_tx175, len_tx180, len_tx182, len_tx187, len_tx189, len_tx191, len_tx193, len_tx195, len_tx197, len_tx203, len_tx208]; omega)) (by decide) (by decide) (by omega) (by omega) (by exact Nat.le_of_ble_eq_true rfl) (fun _ _ _ w _ => w.elim) (fun v9 h9 z9 w9 hz9 => ?_)
    clear hs hb hz9
    obtain ⟨rfl, hs, hz9⟩ := w9
    obtain ⟨v8, n8, hb⟩ := hs.obj
    refine Go.callV (C1 := 3) (S1 := 7272) (as := []) d_Law_sum_144 rfl l_Law_44 k_StringBuilder_toString_v rfl hb rfl rfl (c_toStr hk hs) (by decide) (by decide) (by omega) (by simp only [List.length_append, List.length_nil, len_tx35, len_tx48, len_tx50, len_tx52, len_tx54, len_tx56, len_tx58, len_tx60, len_tx62, len_tx64, len_tx66, len_tx68, len_tx70, len_tx72, len_tx74, len_tx76, len_tx78, len_tx80, len_tx82, len_tx84, len_tx86, len_tx88, len_tx90, len_tx92, len_tx94, len_tx96, len_tx98, len_tx100, len_tx102, len_tx104, len_tx106, len_tx108, len_tx110, len_tx112, len_tx114, len_tx135, len_tx137, len_tx139, len_tx141, len_tx143, len_tx148, len_tx150, len_tx152, len_tx157, len_tx159, len_tx161, len_tx166, len_tx168, len_tx173, len_tx175, len_tx180, len_tx182, len_tx187, len_tx189, len_tx191, len_tx193, len_tx195, len_tx197, len_tx203, len_tx208]; omega) (by exact Nat.le_of_ble_eq_true rfl) (fun _ _ _ w _ => w.elim) (fun v9 h9 z9 w9 hz9 => ?_)
    obtain ⟨c9, rfl, he9, hst9⟩ := w9
    exact Go.aret d_Law_sum_147 rfl ⟨c9, rfl, hs.rd.tr he9, Or.inr (hst9.of hs.rd)⟩
  rw [if_neg e3]
  by_cases e4 : o 3 = 4
  · rw [if_pos e4]
    refine Go.tsw (t := 148) d_Law_sum_7 (by rw [e4]; rfl) ?_
    refine Go.low (fun hlow => ?_)
    refine Go.new (ci := 10) (C1 := 8) (S1 := 12196) (fs := [.null, .int 0, .int 0, .int 0]) ty_StringBuilder d_Law_sum_148 rfl rfl cw_StringBuilder ty_StringBuilder_ok x_lkSB x_insSB x_iniSB n9_fs_SB (by omega) (by omega) ?_
    refine Go.dup d_Law_sum_151 rfl rfl ?_
    refine Go.callI (C1 := 7) (S1 := 12180) (as := []) d_Law_sum_152 rfl (Or.inl l_Law_34) k_StringBuilder_init_n rfl rfl (c_sb_init hk hup_at) (by decide) (by decide) (by omega) (by omega) (Nat.le_of_ble_eq_true rfl) (fun _ _ _ w _ => w.elim) (fun v9 h9 z9 w9 hz9 => ?_)
    obtain ⟨rfl, hs, rfl⟩ := w9
    rw [hdel_up (hlow _ (Nat.le_refl _))] at hs
    clear hz9
    refine Go.ldcS d_Law_sum_155 rfl rfl (hls.t58).1 ?_
    obtain ⟨v8, n8, hb⟩ := hs.obj
    refine Go.callV (C1 := 6) (S1 := 9778) (as := [.ref (ls 58)]) d_Law_sum_157 rfl l_Law_37 k_StringBuilder_append_1_v rfl hb rfl rfl (c_append hk hp hs (Or.inl (hls.t58).2) LB_tx58 (by simp only [List.length_append, List.length_nil, len_tx35, len_tx48, len_tx50, len_tx52, len_tx54, len_tx56, len_tx58, len_tx60, len_tx62, len_tx64, len_tx66, len_tx68, len_tx70, len_tx72, len_tx74, len_tx76, len_tx78, len_tx80, len_tx82, len_tx84, len_tx86, len_tx88, len_tx90, len_tx92, len_tx94, len_tx96, len_tx98, len_tx100, len_tx102, len_tx104, len_tx106, len_tx108, len_tx110, len_tx112, len_tx114, len_tx135, len_tx137, len_tx139, len_tx141, len_tx143, len_tx148, len_tx150, len_tx152, len_tx157, len_tx159, len_tx161, len_tx166, len_tx168, len_tx173, len_tx175, len_tx180, len_tx182, len_tx187, len_tx189, len_tx191, len_tx193, len_tx195, len_tx197, len_tx203, len_tx208]; omega)) (by decide) (by decide) (by omega) (by omega) (by exact Nat.le_of_ble_eq_true rfl) (fun _ _ _ w _ => w.elim) (fun v9 h9 z9 w9 hz9 => ?_)
    clear hs hb hz9
    obtain ⟨rfl, hs, hz9⟩ := w9
    refine Go.aload_0 d_Law_sum_160 rfl ?_
    refine Go.bipush (v := 9) d_Law_sum_161 rfl (by decide) ?_
    refine Go.iaload d_Law_sum_163 rfl (hs.rd _ _ ho) (okI_in (by decide)) ?_
    rw [show (9 : Int32).toNatClampNeg = 9 from by decide, hf 9 (by decide)]
    obtain ⟨v8, n8, hb⟩ := hs.obj
    refine Go.callV (C1 := 5) (S1 := 7376) (as := [.int (nI (o 9))]) d_Law_sum_164 rfl l_Law_41 k_StringBuilder_append_0_v rfl hb rfl rfl (c_appendI (v0 := o 9) hk hp hdg hs (by omega) (by simp only [List.length_append, List.length_nil, len_tx35, len_tx48, len_tx50, len_tx52, len_tx54, len_tx56, len_tx58, len_tx60, len_tx62, len_tx64, len_tx66, len_tx68, len_tx70, len_tx72, len_tx74, len_tx76, len_tx78, len_tx80, len_tx82, len_tx84, len_tx86, len_tx88, len_tx90, len_tx92, len_tx94, len_tx96, len_tx98, len_tx100, len_tx102, len_tx104, len_tx106, len_tx108, len_tx110, len_tx112, len_tx114, len_tx135, len_tx137, len_tx139, len_tx141, len_tx143, len_tx148, len_tx150, len_tx152, len_tx157, len_tx159, len_tx161, len_tx166, len_tx168, len_tx173, len_tx175, len_tx180, len_tx182, len_tx187, len_tx189, len_tx191, len_tx193, len_tx195, len_tx197, len_tx203, len_tx208]; omega)) (by decide) (by decide) (by omega) (by omega) (by exact Nat.le_of_ble_eq_true rfl) (fun _ _ _ w _ => w.elim) (fun v9 h9 z9 w9 hz9 => ?_)
    clear hs hb hz9
    obtain ⟨rfl, hs, hz9⟩ := w9
    refine Go.ldcS d_Law_sum_167 rfl rfl (hls.t60).1 ?_
    obtain ⟨v8, n8, hb⟩ := hs.obj
    refine Go.callV (C1 := 4) (S1 := 4974) (as := [.ref (ls 60)]) d_Law_sum_169 rfl l_Law_37 k_StringBuilder_append_1_v rfl hb rfl rfl (c_append hk hp hs (Or.inl (hls.t60).2) LB_tx60 (by simp only [List.length_append, List.length_nil, len_tx35, len_tx48, len_tx50, len_tx52, len_tx54, len_tx56, len_tx58, len_tx60, len_tx62, len_tx64, len_tx66, len_tx68, len_tx70, len_tx72, len_tx74, len_tx76, len_tx78, len_tx80, len_tx82, len_tx84, len_tx86, len_tx88, len_tx90, len_tx92, len_tx94, len_tx96, len_tx98, len_tx100, len_tx102, len_tx104, len_tx106, len_tx108, len_tx110, len_tx112, len_tx114, len_tx135, len_tx137, len_tx139, len_tx141, len_tx143, len_tx148, len_tx150, len_tx152, len_tx157, len_tx159, len_tx161, len_tx166, len_tx168, len_tx173, len_tx175, len_tx180, len_tx182, len_tx187, len_tx189, len_tx191, len_tx193, len_tx195, len_tx197, len_tx203, len_tx208]; omega)) (by decide) (by decide) (by omega) (by omega) (by exact Nat.le_of_ble_eq_true rfl) (fun _ _ _ w _ => w.elim) (fun v9 h9 z9 w9 hz9 => ?_)
    clear hs hb hz9
    obtain ⟨rfl, hs, hz9⟩ := w9
    refine Go.iload_1 d_Law_sum_172 rfl ?_
    obtain ⟨v8, n8, hb⟩ := hs.obj
    refine Go.callV (C1 := 3) (S1 := 2572) (as := [.int (nI (o 4))]) d_Law_sum_173 rfl l_Law_41 k_StringBuilder_append_0_v rfl hb rfl rfl (c_appendI (v0 := o 4) hk hp hdg hs (by omega) (by simp only [List.length_append, List.length_nil, len_tx35, len_tx48, len_tx50, len_tx52, len_tx54, len_tx56, len_tx58, len_tx60, len_tx62, len_tx64, len_tx66, len_tx68, len_tx70, len_tx72, len_tx74, len_tx76, len_tx78, len_tx80, len_tx82, len_tx84, len_tx86, len_tx88, len_tx90, len_tx92, len_tx94, len_tx96, len_tx98, len_tx100, len_tx102, len_tx104, len_tx106, len_tx108, len_tx110, len_tx112, len_tx114, len_tx135, len_tx137, len_tx139, len_tx141, len_tx143, len_tx148, len_tx150, len_tx152, len_tx157, len_tx159, len_tx161, len_tx166, len_tx168, len_tx173, len_tx175, len_tx180, len_tx182, len_tx187, len_tx189, len_tx191, len_tx193, len_tx195, len_tx197, len_tx203, len_tx208]; omega)) (by decide) (by decide) (by omega) (by omega) (by exact Nat.le_of_ble_eq_true rfl) (fun _ _ _ w _ => w.elim) (fun v9 h9 z9 w9 hz9 => ?_)
    clear hs hb hz9
    obtain ⟨rfl, hs, hz9⟩ := w9
    obtain ⟨v8, n8, hb⟩ := hs.obj
    refine Go.callV (C1 := 1) (S1 := 2468) (as := []) d_Law_sum_176 rfl l_Law_44 k_StringBuilder_toString_v rfl hb rfl rfl (c_toStr hk hs) (by decide) (by decide) (by omega) (by simp only [List.length_append, List.length_nil, len_tx35, len_tx48, len_tx50, len_tx52, len_tx54, len_tx56, len_tx58, len_tx60, len_tx62, len_tx64, len_tx66, len_tx68, len_tx70, len_tx72, len_tx74, len_tx76, len_tx78, len_tx80, len_tx82, len_tx84, len_tx86, len_tx88, len_tx90, len_tx92, len_tx94, len_tx96, len_tx98, len_tx100, len_tx102, len_tx104, len_tx106, len_tx108, len_tx110, len_tx112, len_tx114, len_tx135, len_tx137, len_tx139, len_tx141, len_tx143, len_tx148, len_tx150, len_tx152, len_tx157, len_tx159, len_tx161, len_tx166, len_tx168, len_tx173, len_tx175, len_tx180, len_tx182, len_tx187, len_tx189, len_tx191, len_tx193, len_tx195, len_tx197, len_tx203, len_tx208]; omega) (by exact Nat.le_of_ble_eq_true rfl) (fun _ _ _ w _ => w.elim) (fun v9 h9 z9 w9 hz9 => ?_)
    obtain ⟨c9, rfl, he9, hst9⟩ := w9
    exact Go.aret d_Law_sum_179 rfl ⟨c9, rfl, hs.rd.tr he9, Or.inr (hst9.of hs.rd)⟩
  rw [if_neg e4]
  by_cases e5 : o 3 = 5
  · rw [if_pos e5]
    refine Go.tsw (t := 180) d_Law_sum_7 (by rw [e5]; rfl) ?_
    refine Go.low (fun hlow => ?_)
    refine Go.new (ci := 10) (C1 := 8) (S1 := 12196) (fs := [.null, .int 0, .int 0, .int 0]) ty_StringBuilder d_Law_sum_180 rfl rfl cw_StringBuilder ty_StringBuilder_ok x_lkSB x_insSB x_iniSB n9_fs_SB (by omega) (by omega) ?_
    refine Go.dup d_Law_sum_183 rfl rfl ?_
    refine Go.callI (C1 := 7) (S1 := 12180) (as := []) d_Law_sum_184 rfl (Or.inl l_Law_34) k_StringBuilder_init_n rfl rfl (c_sb_init hk hup_at) (by decide) (by decide) (by omega) (by omega) (Nat.le_of_ble_eq_true rfl) (fun _ _ _ w _ => w.elim) (fun v9 h9 z9 w9 hz9 => ?_)
    obtain ⟨rfl, hs, rfl⟩ := w9
    rw [hdel_up (hlow _ (Nat.le_refl _))] at hs
    clear hz9
    refine Go.ldcS d_Law_sum_187 rfl rfl (hls.t62).1 ?_
    obtain ⟨v8, n8, hb⟩ := hs.obj
    refine Go.callV (C1 := 6) (S1 := 9778) (as := [.ref (ls 62)]) d_Law_sum_189 rfl l_Law_37 k_StringBuilder_append_1_v rfl hb rfl rfl (c_append hk hp hs (Or.inl (hls.t62).2) LB_tx62 (by simp only [List.length_append, List.length_nil, len_tx35, len_tx48, len_tx50, len_tx52, len_tx54, len_tx56, len_tx58, len_tx60, len_tx62, len_tx64, len_tx66, len_tx68, len_tx70, len_tx72, len_tx74, len_tx76, len_tx78, len_tx80, len_tx82, len_tx84, len_tx86, len_tx88, len_tx90, len_tx92, len_tx94, len_tx96, len_tx98, len_tx100, len_tx102, len_tx104, len_tx106, len_tx108, len_tx110, len_tx112, len_tx114, len_tx135, len_tx137, len_tx139, len_tx141, len_tx143, len_tx148, len_tx150, len_tx152, len_tx157, len_tx159, len_tx161, len_tx166, len_tx168, len_tx173, len_tx175, len_tx180, len_tx182, len_tx187, len_tx189, len_tx191, len_tx193, len_tx195, len_tx197, len_tx203, len_tx208]; omega)) (by decide) (by decide) (by omega) (by omega) (by exact Nat.le_of_ble_eq_true rfl) (fun _ _ _ w _ => w.elim) (fun v9 h9 z9 w9 hz9 => ?_)
    clear hs hb hz9
    obtain ⟨rfl, hs, hz9⟩ := w9
    refine Go.aload_0 d_Law_sum_192 rfl ?_
    refine Go.bipush (v := 7) d_Law_sum_193 rfl (by decide) ?_
    refine Go.iaload d_Law_sum_195 rfl (hs.rd _ _ ho) (okI_in (by decide)) ?_
    rw [show (7 : Int32).toNatClampNeg = 7 from by decide, hf 7 (by decide)]
    obtain ⟨v8, n8, hb⟩ := hs.obj
    refine Go.callV (C1 := 5) (S1 := 7376) (as := [.int (nI (o 7))]) d_Law_sum_196 rfl l_Law_41 k_StringBuilder_append_0_v rfl hb rfl rfl (c_appendI (v0 := o 7) hk hp hdg hs (by omega) (by simp only [List.length_append, List.length_nil, len_tx35, len_tx48, len_tx50, len_tx52, len_tx54, len_tx56, len_tx58, len_tx60, len_tx62, len_tx64, len_tx66, len_tx68, len_tx70, len_tx72, len_tx74, len_tx76, len_tx78, len_tx80, len_tx82, len_tx84, len_tx86, len_tx88, len_tx90, len_tx92, len_tx94, len_tx96, len_tx98, len_tx100, len_tx102, len_tx104, len_tx106, len_tx108, len_tx110, len_tx112, len_tx114, len_tx135, len_tx137, len_tx139, len_tx141, len_tx143, len_tx148, len_tx150, len_tx152, len_tx157, len_tx159, len_tx161, len_tx166, len_tx168, len_tx173, len_tx175, len_tx180, len_tx182, len_tx187, len_tx189, len_tx191, len_tx193, len_tx195, len_tx197, len_tx203, len_tx208]; omega)) (by decide) (by decide) (by omega) (by omega) (by exact Nat.le_of_ble_eq_true rfl) (fun _ _ _ w _ => w.elim) (fun v9 h9 z9 w9 hz9 => ?_)
    clear hs hb hz9
    obtain ⟨rfl, hs, hz9⟩ := w9
    refine Go.ldcS d_Law_sum_199 rfl rfl (hls.t64).1 ?_
    obtain ⟨v8, n8, hb⟩ := hs.obj
    refine Go.callV (C1 := 4) (S1 := 4974) (as := [.ref (ls 64)]) d_Law_sum_201 rfl l_Law_37 k_StringBuilder_append_1_v rfl hb rfl rfl (c_append hk hp hs (Or.inl (hls.t64).2) LB_tx64 (by simp only [List.length_append, List.length_nil, len_tx35, len_tx48, len_tx50, len_tx52, len_tx54, len_tx56, len_tx58, len_tx60, len_tx62, len_tx64, len_tx66, len_tx68, len_tx70, len_tx72, len_tx74, len_tx76, len_tx78, len_tx80, len_tx82, len_tx84, len_tx86, len_tx88, len_tx90, len_tx92, len_tx94, len_tx96, len_tx98, len_tx100, len_tx102, len_tx104, len_tx106, len_tx108, len_tx110, len_tx112, len_tx114, len_tx135, len_tx137, len_tx139, len_tx141, len_tx143, len_tx148, len_tx150, len_tx152, len_tx157, len_tx159, len_tx161, len_tx166, len_tx168, len_tx173, len_tx175, len_tx180, len_tx182, len_tx187, len_tx189, len_tx191, len_tx193, len_tx195, len_tx197, len_tx203, len_tx208]; omega)) (by decide) (by decide) (by omega) (by omega) (by exact Nat.le_of_ble_eq_true rfl) (fun _ _ _ w _ => w.elim) (fun v9 h9 z9 w9 hz9 => ?_)
    clear hs hb hz9
    obtain ⟨rfl, hs, hz9⟩ := w9
    refine Go.iload_1 d_Law_sum_204 rfl ?_
    obtain ⟨v8, n8, hb⟩ := hs.obj
    refine Go.callV (C1 := 3) (S1 := 2572) (as := [.int (nI (o 4))]) d_Law_sum_205 rfl l_Law_41 k_StringBuilder_append_0_v rfl hb rfl rfl (c_appendI (v0 := o 4) hk hp hdg hs (by omega) (by simp only [List.length_append, List.length_nil, len_tx35, len_tx48, len_tx50, len_tx52, len_tx54, len_tx56, len_tx58, len_tx60, len_tx62, len_tx64, len_tx66, len_tx68, len_tx70, len_tx72, len_tx74, len_tx76, len_tx78, len_tx80, len_tx82, len_tx84, len_tx86, len_tx88, len_tx90, len_tx92, len_tx94, len_tx96, len_tx98, len_tx100, len_tx102, len_tx104, len_tx106, len_tx108, len_tx110, len_tx112, len_tx114, len_tx135, len_tx137, len_tx139, len_tx141, len_tx143, len_tx148, len_tx150, len_tx152, len_tx157, len_tx159, len_tx161, len_tx166, len_tx168, len_tx173, len_tx175, len_tx180, len_tx182, len_tx187, len_tx189, len_tx191, len_tx193, len_tx195, len_tx197, len_tx203, len_tx208]; omega)) (by decide) (by decide) (by omega) (by omega) (by exact Nat.le_of_ble_eq_true rfl) (fun _ _ _ w _ => w.elim) (fun v9 h9 z9 w9 hz9 => ?_)
    clear hs hb hz9
    obtain ⟨rfl, hs, hz9⟩ := w9
    obtain ⟨v8, n8, hb⟩ := hs.obj
    refine Go.callV (C1 := 1) (S1 := 2468) (as := []) d_Law_sum_208 rfl l_Law_44 k_StringBuilder_toString_v rfl hb rfl rfl (c_toStr hk hs) (by decide) (by decide) (by omega) (by simp only [List.length_append, List.length_nil, len_tx35, len_tx48, len_tx50, len_tx52, len_tx54, len_tx56, len_tx58, len_tx60, len_tx62, len_tx64, len_tx66, len_tx68, len_tx70, len_tx72, len_tx74, len_tx76, len_tx78, len_tx80, len_tx82, len_tx84, len_tx86, len_tx88, len_tx90, len_tx92, len_tx94, len_tx96, len_tx98, len_tx100, len_tx102, len_tx104, len_tx106, len_tx108, len_tx110, len_tx112, len_tx114, len_tx135, len_tx137, len_tx139, len_tx141, len_tx143, len_tx148, len_tx150, len_tx152, len_tx157, len_tx159, len_tx161, len_tx166, len_tx168, len_tx173, len_tx175, len_tx180, len_tx182, len_tx187, len_tx189, len_tx191, len_tx193, len_tx195, len_tx197, len_tx203, len_tx208]; omega) (by exact Nat.le_of_ble_eq_true rfl) (fun _ _ _ w _ => w.elim) (fun v9 h9 z9 w9 hz9 => ?_)
    obtain ⟨c9, rfl, he9, hst9⟩ := w9
    exact Go.aret d_Law_sum_211 rfl ⟨c9, rfl, hs.rd.tr he9, Or.inr (hst9.of hs.rd)⟩
  rw [if_neg e5]
  by_cases e6 : o 3 = 6
  · rw [if_pos e6]
    refine Go.tsw (t := 212) d_Law_sum_7 (by rw [e6]; rfl) ?_
    refine Go.low (fun hlow => ?_)
    refine Go.new (ci := 10) (C1 := 8) (S1 := 12196) (fs := [.null, .int 0, .int 0, .int 0]) ty_StringBuilder d_Law_sum_212 rfl rfl cw_StringBuilder ty_StringBuilder_ok x_lkSB x_insSB x_iniSB n9_fs_SB (by omega) (by omega) ?_
    refine Go.dup d_Law_sum_215 rfl rfl ?_
    refine Go.callI (C1 := 7) (S1 := 12180) (as := []) d_Law_sum_216 rfl (Or.inl l_Law_34) k_StringBuilder_init_n rfl rfl (c_sb_init hk hup_at) (by decide) (by decide) (by omega) (by omega) (Nat.le_of_ble_eq_true rfl) (fun _ _ _ w _ => w.elim) (fun v9 h9 z9 w9 hz9 => ?_)
    obtain ⟨rfl, hs, rfl⟩ := w9
    rw [hdel_up (hlow _ (Nat.le_refl _))] at hs
    clear hz9
    refine Go.ldcS d_Law_sum_219 rfl rfl (hls.t66).1 ?_
    obtain ⟨v8, n8, hb⟩ := hs.obj
    refine Go.callV (C1 := 6) (S1 := 9778) (as := [.ref (ls 66)]) d_Law_sum_221 rfl l_Law_37 k_StringBuilder_append_1_v rfl hb rfl rfl (c_append hk hp hs (Or.inl (hls.t66).2) LB_tx66 (by simp only [List.length_append, List.length_nil, len_tx35, len_tx48, len_tx50, len_tx52, len_tx54, len_tx56, len_tx58, len_tx60, len_tx62, len_tx64, len_tx66, len_tx68, len_tx70, len_tx72, len_tx74, len_tx76, len_tx78, len_tx80, len_tx82, len_tx84, len_tx86, len_tx88, len_tx90, len_tx92, len_tx94, len_tx96, len_tx98, len_tx100, len_tx102, len_tx104, len_tx106, len_tx108, len_tx110, len_tx112, len_tx114, len_tx135, len_tx137, len_tx139, len_tx141, len_tx143, len_tx148, len_tx150, len_tx152, len_tx157, len_tx159, len_tx161, len_tx166, len_tx168, len_tx173, len_tx175, len_tx180, len_tx182, len_tx187, len_tx189, len_tx191, len_tx193, len_tx195, len_tx197, len_tx203, len_tx208]; omega)) (by decide) (by decide) (by omega) (by omega) (by exact Nat.le_of_ble_eq_true rfl) (fun _ _ _ w _ => w.elim) (fun v9 h9 z9 w9 hz9 => ?_)
    clear hs hb hz9
    obtain ⟨rfl, hs, hz9⟩ := w9
    refine Go.aload_0 d_Law_sum_224 rfl ?_
    refine Go.bipush (v := 11) d_Law_sum_225 rfl (by decide) ?_
    refine Go.iaload d_Law_sum_227 rfl (hs.rd _ _ ho) (okI_in (by decide)) ?_
    rw [show (11 : Int32).toNatClampNeg = 11 from by decide, hf 11 (by decide)]
    obtain ⟨v8, n8, hb⟩ := hs.obj
    refine Go.callV (C1 := 5) (S1 := 7376) (as := [.int (nI (o 11))]) d_Law_sum_228 rfl l_Law_41 k_StringBuilder_append_0_v rfl hb rfl rfl (c_appendI (v0 := o 11) hk hp hdg hs (by omega) (by simp only [List.length_append, List.length_nil, len_tx35, len_tx48, len_tx50, len_tx52, len_tx54, len_tx56, len_tx58, len_tx60, len_tx62, len_tx64, len_tx66, len_tx68, len_tx70, len_tx72, len_tx74, len_tx76, len_tx78, len_tx80, len_tx82, len_tx84, len_tx86, len_tx88, len_tx90, len_tx92, len_tx94, len_tx96, len_tx98, len_tx100, len_tx102, len_tx104, len_tx106, len_tx108, len_tx110, len_tx112, len_tx114, len_tx135, len_tx137, len_tx139, len_tx141, len_tx143, len_tx148, len_tx150, len_tx152, len_tx157, len_tx159, len_tx161, len_tx166, len_tx168, len_tx173, len_tx175, len_tx180, len_tx182, len_tx187, len_tx189, len_tx191, len_tx193, len_tx195, len_tx197, len_tx203, len_tx208]; omega)) (by decide) (by decide) (by omega) (by omega) (by exact Nat.le_of_ble_eq_true rfl) (fun _ _ _ w _ => w.elim) (fun v9 h9 z9 w9 hz9 => ?_)
    clear hs hb hz9
    obtain ⟨rfl, hs, hz9⟩ := w9
    refine Go.ldcS d_Law_sum_231 rfl rfl (hls.t68).1 ?_
    obtain ⟨v8, n8, hb⟩ := hs.obj
    refine Go.callV (C1 := 4) (S1 := 4974) (as := [.ref (ls 68)]) d_Law_sum_233 rfl l_Law_37 k_StringBuilder_append_1_v rfl hb rfl rfl (c_append hk hp hs (Or.inl (hls.t68).2) LB_tx68 (by simp only [List.length_append, List.length_nil, len_tx35, len_tx48, len_tx50, len_tx52, len_tx54, len_tx56, len_tx58, len_tx60, len_tx62, len_tx64, len_tx66, len_tx68, len_tx70, len_tx72, len_tx74, len_tx76, len_tx78, len_tx80, len_tx82, len_tx84, len_tx86, len_tx88, len_tx90, len_tx92, len_tx94, len_tx96, len_tx98, len_tx100, len_tx102, len_tx104, len_tx106, len_tx108, len_tx110, len_tx112, len_tx114, len_tx135, len_tx137, len_tx139, len_tx141, len_tx143, len_tx148, len_tx150, len_tx152, len_tx157, len_tx159, len_tx161, len_tx166, len_tx168, len_tx173, len_tx175, len_tx180, len_tx182, len_tx187, len_tx189, len_tx191, len_tx193, len_tx195, len_tx197, len_tx203, len_tx208]; omega)) (by decide) (by decide) (by omega) (by omega) (by exact Nat.le_of_ble_eq_true rfl) (fun _ _ _ w _ => w.elim) (fun v9 h9 z9 w9 hz9 => ?_)
    clear hs hb hz9
    obtain ⟨rfl, hs, hz9⟩ := w9
    refine Go.iload_1 d_Law_sum_236 rfl ?_
    obtain ⟨v8, n8, hb⟩ := hs.obj
    refine Go.callV (C1 := 3) (S1 := 2572) (as := [.int (nI (o 4))]) d_Law_sum_237 rfl l_Law_41 k_StringBuilder_append_0_v rfl hb rfl rfl (c_appendI (v0 := o 4) hk hp hdg hs (by omega) (by simp only [List.length_append, List.length_nil, len_tx35, len_tx48, len_tx50, len_tx52, len_tx54, len_tx56, len_tx58, len_tx60, len_tx62, len_tx64, len_tx66, len_tx68, len_tx70, len_tx72, len_tx74, len_tx76, len_tx78, len_tx80, len_tx82, len_tx84, len_tx86, len_tx88, len_tx90, len_tx92, len_tx94, len_tx96, len_tx98, len_tx100, len_tx102, len_tx104, len_tx106, len_tx108, len_tx110, len_tx112, len_tx114, len_tx135, len_tx137, len_tx139, len_tx141, len_tx143, len_tx148, len_tx150, len_tx152, len_tx157, len_tx159, len_tx161, len_tx166, len_tx168, len_tx173, len_tx175, len_tx180, len_tx182, len_tx187, len_tx189, len_tx191, len_tx193, len_tx195, len_tx197, len_tx203, len_tx208]; omega)) (by decide) (by decide) (by omega) (by omega) (by exact Nat.le_of_ble_eq_true rfl) (fun _ _ _ w _ => w.elim) (fun v9 h9 z9 w9 hz9 => ?_)
    clear hs hb hz9
    obtain ⟨rfl, hs, hz9⟩ := w9
    obtain ⟨v8, n8, hb⟩ := hs.obj
    refine Go.callV (C1 := 1) (S1 := 2468) (as := []) d_Law_sum_240 rfl l_Law_44 k_StringBuilder_toString_v rfl hb rfl rfl (c_toStr hk hs) (by decide) (by decide) (by omega) (by simp only [List.length_append, List.length_nil, len_tx35, len_tx48, len_tx50, len_tx52, len_tx54, len_tx56, len_tx58, len_tx60, len_tx62, len_tx64, len_tx66, len_tx68, len_tx70, len_tx72, len_tx74, len_tx76, len_tx78, len_tx80, len_tx82, len_tx84, len_tx86, len_tx88, len_tx90, len_tx92, len_tx94, len_tx96, len_tx98, len_tx100, len_tx102, len_tx104, len_tx106, len_tx108, len_tx110, len_tx112, len_tx114, len_tx135, len_tx137, len_tx139, len_tx141, len_tx143, len_tx148, len_tx150, len_tx152, len_tx157, len_tx159, len_tx161, len_tx166, len_tx168, len_tx173, len_tx175, len_tx180, len_tx182, len_tx187, len_tx189, len_tx191, len_tx193, len_tx195, len_tx197, len_tx203, len_tx208]; omega) (by exact Nat.le_of_ble_eq_true rfl) (fun _ _ _ w _ => w.elim) (fun v9 h9 z9 w9 hz9 => ?_)
    obtain ⟨c9, rfl, he9, hst9⟩ := w9
    exact Go.aret d_Law_sum_243 rfl ⟨c9, rfl, hs.rd.tr he9, Or.inr (hst9.of hs.rd)⟩
  rw [if_neg e6]
  have e7 : o 3 = 7 := by omega
  refine Go.tsw (t := 244) d_Law_sum_7 (by rw [e7]; rfl) ?_
  refine Go.low (fun hlow => ?_)
  refine Go.new (ci := 10) (C1 := 8) (S1 := 12196) (fs := [.null, .int 0, .int 0, .int 0]) ty_StringBuilder d_Law_sum_244 rfl rfl cw_StringBuilder ty_StringBuilder_ok x_lkSB x_insSB x_iniSB n9_fs_SB (by omega) (by omega) ?_
  refine Go.dup d_Law_sum_247 rfl rfl ?_
  refine Go.callI (C1 := 7) (S1 := 12180) (as := []) d_Law_sum_248 rfl (Or.inl l_Law_34) k_StringBuilder_init_n rfl rfl (c_sb_init hk hup_at) (by decide) (by decide) (by omega) (by omega) (Nat.le_of_ble_eq_true rfl) (fun _ _ _ w _ => w.elim) (fun v9 h9 z9 w9 hz9 => ?_)
  obtain ⟨rfl, hs, rfl⟩ := w9
  rw [hdel_up (hlow _ (Nat.le_refl _))] at hs
  clear hz9
  refine Go.ldcS d_Law_sum_251 rfl rfl (hls.t70).1 ?_
  obtain ⟨v8, n8, hb⟩ := hs.obj
  refine Go.callV (C1 := 6) (S1 := 9778) (as := [.ref (ls 70)]) d_Law_sum_253 rfl l_Law_37 k_StringBuilder_append_1_v rfl hb rfl rfl (c_append hk hp hs (Or.inl (hls.t70).2) LB_tx70 (by simp only [List.length_append, List.length_nil, len_tx35, len_tx48, len_tx50, len_tx52, len_tx54, len_tx56, len_tx58, len_tx60, len_tx62, len_tx64, len_tx66, len_tx68, len_tx70, len_tx72, len_tx74, len_tx76, len_tx78, len_tx80, len_tx82, len_tx84, len_tx86, len_tx88, len_tx90, len_tx92, len_tx94, len_tx96, len_tx98, len_tx100, len_tx102, len_tx104, len_tx106, len_tx108, len_tx110, len_tx112, len_tx114, len_tx135, len_tx137, len_tx139, len_tx141, len_tx143, len_tx148, len_tx150, len_tx152, len_tx157, len_tx159, len_tx161, len_tx166, len_tx168, len_tx173, len_tx175, len_tx180, len_tx182, len_tx187, len_tx189, len_tx191, len_tx193, len_tx195, len_tx197, len_tx203, len_tx208]; omega)) (by decide) (by decide) (by omega) (by omega) (by exact Nat.le_of_ble_eq_true rfl) (fun _ _ _ w _ => w.elim) (fun v9 h9 z9 w9 hz9 => ?_)
  clear hs hb hz9
  obtain ⟨rfl, hs, hz9⟩ := w9
  refine Go.aload_0 d_Law_sum_256 rfl ?_
  refine Go.bipush (v := 8) d_Law_sum_257 rfl (by decide) ?_
  refine Go.iaload d_Law_sum_259 rfl (hs.rd _ _ ho) (okI_in (by decide)) ?_
  rw [show (8 : Int32).toNatClampNeg = 8 from by decide, hf 8 (by decide)]
  obtain ⟨v8, n8, hb⟩ := hs.obj
  refine Go.callV (C1 := 5) (S1 := 7376) (as := [.int (nI (o 8))]) d_Law_sum_260 rfl l_Law_41 k_StringBuilder_append_0_v rfl hb rfl rfl (c_appendI (v0 := o 8) hk hp hdg hs (by omega) (by simp only [List.length_append, List.length_nil, len_tx35, len_tx48, len_tx50, len_tx52, len_tx54, len_tx56, len_tx58, len_tx60, len_tx62, len_tx64, len_tx66, len_tx68, len_tx70, len_tx72, len_tx74, len_tx76, len_tx78, len_tx80, len_tx82, len_tx84, len_tx86, len_tx88, len_tx90, len_tx92, len_tx94, len_tx96, len_tx98, len_tx100, len_tx102, len_tx104, len_tx106, len_tx108, len_tx110, len_tx112, len_tx114, len_tx135, len_tx137, len_tx139, len_tx141, len_tx143, len_tx148, len_tx150, len_tx152, len_tx157, len_tx159, len_tx161, len_tx166, len_tx168, len_tx173, len_tx175, len_tx180, len_tx182, len_tx187, len_tx189, len_tx191, len_tx193, len_tx195, len_tx197, len_tx203, len_tx208]; omega)) (by decide) (by decide) (by omega) (by omega) (by exact Nat.le_of_ble_eq_true rfl) (fun _ _ _ w _ => w.elim) (fun v9 h9 z9 w9 hz9 => ?_)
  clear hs hb hz9
  obtain ⟨rfl, hs, hz9⟩ := w9
  refine Go.ldcS d_Law_sum_263 rfl rfl (hls.t72).1 ?_
  obtain ⟨v8, n8, hb⟩ := hs.obj
  refine Go.callV (C1 := 4) (S1 := 4974) (as := [.ref (ls 72)]) d_Law_sum_265 rfl l_Law_37 k_StringBuilder_append_1_v rfl hb rfl rfl (c_append hk hp hs (Or.inl (hls.t72).2) LB_tx72 (by simp only [List.length_append, List.length_nil, len_tx35, len_tx48, len_tx50, len_tx52, len_tx54, len_tx56, len_tx58, len_tx60, len_tx62, len_tx64, len_tx66, len_tx68, len_tx70, len_tx72, len_tx74, len_tx76, len_tx78, len_tx80, len_tx82, len_tx84, len_tx86, len_tx88, len_tx90, len_tx92, len_tx94, len_tx96, len_tx98, len_tx100, len_tx102, len_tx104, len_tx106, len_tx108, len_tx110, len_tx112, len_tx114, len_tx135, len_tx137, len_tx139, len_tx141, len_tx143, len_tx148, len_tx150, len_tx152, len_tx157, len_tx159, len_tx161, len_tx166, len_tx168, len_tx173, len_tx175, len_tx180, len_tx182, len_tx187, len_tx189, len_tx191, len_tx193, len_tx195, len_tx197, len_tx203, len_tx208]; omega)) (by decide) (by decide) (by omega) (by omega) (by exact Nat.le_of_ble_eq_true rfl) (fun _ _ _ w _ => w.elim) (fun v9 h9 z9 w9 hz9 => ?_)
  clear hs hb hz9
  obtain ⟨rfl, hs, hz9⟩ := w9
  refine Go.iload_1 d_Law_sum_268 rfl ?_
  obtain ⟨v8, n8, hb⟩ := hs.obj
  refine Go.callV (C1 := 3) (S1 := 2572) (as := [.int (nI (o 4))]) d_Law_sum_269 rfl l_Law_41 k_StringBuilder_append_0_v rfl hb rfl rfl (c_appendI (v0 := o 4) hk hp hdg hs (by omega) (by simp only [List.length_append, List.length_nil, len_tx35, len_tx48, len_tx50, len_tx52, len_tx54, len_tx56, len_tx58, len_tx60, len_tx62, len_tx64, len_tx66, len_tx68, len_tx70, len_tx72, len_tx74, len_tx76, len_tx78, len_tx80, len_tx82, len_tx84, len_tx86, len_tx88, len_tx90, len_tx92, len_tx94, len_tx96, len_tx98, len_tx100, len_tx102, len_tx104, len_tx106, len_tx108, len_tx110, len_tx112, len_tx114, len_tx135, len_tx137, len_tx139, len_tx141, len_tx143, len_tx148, len_tx150, len_tx152, len_tx157, len_tx159, len_tx161, len_tx166, len_tx168, len_tx173, len_tx175, len_tx180, len_tx182, len_tx187, len_tx189, len_tx191, len_tx193, len_tx195, len_tx197, len_tx203, len_tx208]; omega)) (by decide) (by decide) (by omega) (by omega) (by exact Nat.le_of_ble_eq_true rfl) (fun _ _ _ w _ => w.elim) (fun v9 h9 z9 w9 hz9 => ?_)
  clear hs hb hz9
  obtain ⟨rfl, hs, hz9⟩ := w9
  refine Go.ldcS d_Law_sum_272 rfl rfl (hls.t54).1 ?_
  obtain ⟨v8, n8, hb⟩ := hs.obj
  refine Go.callV (C1 := 2) (S1 := 170) (as := [.ref (ls 54)]) d_Law_sum_274 rfl l_Law_37 k_StringBuilder_append_1_v rfl hb rfl rfl (c_append hk hp hs (Or.inl (hls.t54).2) LB_tx54 (by simp only [List.length_append, List.length_nil, len_tx35, len_tx48, len_tx50, len_tx52, len_tx54, len_tx56, len_tx58, len_tx60, len_tx62, len_tx64, len_tx66, len_tx68, len_tx70, len_tx72, len_tx74, len_tx76, len_tx78, len_tx80, len_tx82, len_tx84, len_tx86, len_tx88, len_tx90, len_tx92, len_tx94, len_tx96, len_tx98, len_tx100, len_tx102, len_tx104, len_tx106, len_tx108, len_tx110, len_tx112, len_tx114, len_tx135, len_tx137, len_tx139, len_tx141, len_tx143, len_tx148, len_tx150, len_tx152, len_tx157, len_tx159, len_tx161, len_tx166, len_tx168, len_tx173, len_tx175, len_tx180, len_tx182, len_tx187, len_tx189, len_tx191, len_tx193, len_tx195, len_tx197, len_tx203, len_tx208]; omega)) (by decide) (by decide) (by omega) (by omega) (by exact Nat.le_of_ble_eq_true rfl) (fun _ _ _ w _ => w.elim) (fun v9 h9 z9 w9 hz9 => ?_)
  clear hs hb hz9
  obtain ⟨rfl, hs, hz9⟩ := w9
  obtain ⟨v8, n8, hb⟩ := hs.obj
  refine Go.callV (C1 := 0) (S1 := 66) (as := []) d_Law_sum_277 rfl l_Law_44 k_StringBuilder_toString_v rfl hb rfl rfl (c_toStr hk hs) (by decide) (by decide) (by omega) (by simp only [List.length_append, List.length_nil, len_tx35, len_tx48, len_tx50, len_tx52, len_tx54, len_tx56, len_tx58, len_tx60, len_tx62, len_tx64, len_tx66, len_tx68, len_tx70, len_tx72, len_tx74, len_tx76, len_tx78, len_tx80, len_tx82, len_tx84, len_tx86, len_tx88, len_tx90, len_tx92, len_tx94, len_tx96, len_tx98, len_tx100, len_tx102, len_tx104, len_tx106, len_tx108, len_tx110, len_tx112, len_tx114, len_tx135, len_tx137, len_tx139, len_tx141, len_tx143, len_tx148, len_tx150, len_tx152, len_tx157, len_tx159, len_tx161, len_tx166, len_tx168, len_tx173, len_tx175, len_tx180, len_tx182, len_tx187, len_tx189, len_tx191, len_tx193, len_tx195, len_tx197, len_tx203, len_tx208]; omega) (by exact Nat.le_of_ble_eq_true rfl) (fun _ _ _ w _ => w.elim) (fun v9 h9 z9 w9 hz9 => ?_)
  obtain ⟨c9, rfl, he9, hst9⟩ := w9
  exact Go.aret d_Law_sum_280 rfl ⟨c9, rfl, hs.rd.tr he9, Or.inr (hst9.of hs.rd)⟩
theorem d_Law_when_63 : decode M_Law_when.2.1 63 = .ok (.new 32, 3) := by decide +kernel
theorem d_Law_when_66 : decode M_Law_when.2.1 66 = .ok (.dup, 1) := by decide +kernel
theorem d_Law_when_67 : decode M_Law_when.2.1 67 = .ok (.invokespecial 34, 3) := by decide +kernel
theorem d_Law_when_70 : decode M_Law_when.2.1 70 = .ok (.ldc 76, 2) := by decide +kernel
theorem d_Law_when_72 : decode M_Law_when.2.1 72 = .ok (.invokevirtual 37, 3) := by decide +kernel
theorem d_Law_when_75 : decode M_Law_when.2.1 75 = .ok (.iload_n 1, 1) := by decide +kernel
theorem d_Law_when_76 : decode M_Law_when.2.1 76 = .ok (.invokevirtual 41, 3) := by decide +kernel
theorem d_Law_when_79 : decode M_Law_when.2.1 79 = .ok (.invokevirtual 44, 3) := by decide +kernel
theorem d_Law_when_82 : decode M_Law_when.2.1 82 = .ok (.areturn, 1) := by decide +kernel
theorem d_Law_when_83 : decode M_Law_when.2.1 83 = .ok (.new 32, 3) := by decide +kernel
theorem d_Law_when_86 : decode M_Law_when.2.1 86 = .ok (.dup, 1) := by decide +kernel
theorem d_Law_when_87 : decode M_Law_when.2.1 87 = .ok (.invokespecial 34, 3) := by decide +kernel
theorem d_Law_when_90 : decode M_Law_when.2.1 90 = .ok (.ldc 78, 2) := by decide +kernel
theorem d_Law_when_92 : decode M_Law_when.2.1 92 = .ok (.invokevirtual 37, 3) := by decide +kernel
theorem d_Law_when_95 : decode M_Law_when.2.1 95 = .ok (.aload_n 0, 1) := by decide +kernel
theorem d_Law_when_96 : decode M_Law_when.2.1 96 = .ok (.bipush 9, 2) := by decide +kernel
theorem d_Law_when_98 : decode M_Law_when.2.1 98 = .ok (.iaload, 1) := by decide +kernel
theorem d_Law_when_99 : decode M_Law_when.2.1 99 = .ok (.invokevirtual 41, 3) := by decide +kernel
theorem d_Law_when_102 : decode M_Law_when.2.1 102 = .ok (.ldc 80, 2) := by decide +kernel
theorem d_Law_when_104 : decode M_Law_when.2.1 104 = .ok (.invokevirtual 37, 3) := by decide +kernel
theorem d_Law_when_107 : decode M_Law_when.2.1 107 = .ok (.iload_n 1, 1) := by decide +kernel
theorem d_Law_when_108 : decode M_Law_when.2.1 108 = .ok (.invokevirtual 41, 3) := by decide +kernel
theorem d_Law_when_111 : decode M_Law_when.2.1 111 = .ok (.ldc 82, 2) := by decide +kernel
theorem d_Law_when_113 : decode M_Law_when.2.1 113 = .ok (.invokevirtual 37, 3) := by decide +kernel
theorem d_Law_when_116 : decode M_Law_when.2.1 116 = .ok (.invokevirtual 44, 3) := by decide +kernel
theorem d_Law_when_119 : decode M_Law_when.2.1 119 = .ok (.areturn, 1) := by decide +kernel
theorem d_Law_when_120 : decode M_Law_when.2.1 120 = .ok (.new 32, 3) := by decide +kernel
theorem d_Law_when_123 : decode M_Law_when.2.1 123 = .ok (.dup, 1) := by decide +kernel
theorem d_Law_when_124 : decode M_Law_when.2.1 124 = .ok (.invokespecial 34, 3) := by decide +kernel
theorem d_Law_when_127 : decode M_Law_when.2.1 127 = .ok (.ldc 84, 2) := by decide +kernel
theorem d_Law_when_129 : decode M_Law_when.2.1 129 = .ok (.invokevirtual 37, 3) := by decide +kernel
theorem d_Law_when_132 : decode M_Law_when.2.1 132 = .ok (.aload_n 0, 1) := by decide +kernel
theorem d_Law_when_133 : decode M_Law_when.2.1 133 = .ok (.bipush 7, 2) := by decide +kernel
theorem d_Law_when_135 : decode M_Law_when.2.1 135 = .ok (.iaload, 1) := by decide +kernel
theorem d_Law_when_136 : decode M_Law_when.2.1 136 = .ok (.invokevirtual 41, 3) := by decide +kernel
theorem d_Law_when_139 : decode M_Law_when.2.1 139 = .ok (.invokevirtual 44, 3) := by decide +kernel
theorem d_Law_when_142 : decode M_Law_when.2.1 142 = .ok (.areturn, 1) := by decide +kernel
theorem d_Law_when_143 : decode M_Law_when.2.1 143 = .ok (.new 32, 3) := by decide +kernel
theorem d_Law_when_146 : decode M_Law_when.2.1 146 = .ok (.dup, 1) := by decide +kernel
theorem d_Law_when_147 : decode M_Law_when.2.1 147 = .ok (.invokespecial 34, 3) := by decide +kernel
theorem d_Law_when_150 : decode M_Law_when.2.1 150 = .ok (.ldc 86, 2) := by decide +kernel
theorem d_Law_when_152 : decode M_Law_when.2.1 152 = .ok (.invokevirtual 37, 3) := by decide +kernel
theorem d_Law_when_155 : decode M_Law_when.2.1 155 = .ok (.aload_n 0, 1) := by decide +kernel
theorem d_Law_when_156 : decode M_Law_when.2.1 156 = .ok (.bipush 7, 2) := by decide +kernel
theorem d_Law_when_158 : decode M_Law_when.2.1 158 = .ok (.iaload, 1) := by decide +kernel
theorem d_Law_when_159 : decode M_Law_when.2.1 159 = .ok (.invokevirtual 41, 3) := by decide +kernel
theorem d_Law_when_162 : decode M_Law_when.2.1 162 = .ok (.ldc 88, 2) := by decide +kernel
theorem d_Law_when_164 : decode M_Law_when.2.1 164 = .ok (.invokevirtual 37, 3) := by decide +kernel
theorem d_Law_when_167 : decode M_Law_when.2.1 167 = .ok (.aload_n 0, 1) := by decide +kernel
theorem d_Law_when_168 : decode M_Law_when.2.1 168 = .ok (.bipush 7, 2) := by decide +kernel
theorem d_Law_when_170 : decode M_Law_when.2.1 170 = .ok (.iaload, 1) := by decide +kernel
theorem d_Law_when_171 : decode M_Law_when.2.1 171 = .ok (.invokevirtual 41, 3) := by decide +kernel
theorem d_Law_when_174 : decode M_Law_when.2.1 174 = .ok (.ldc 90, 2) := by decide +kernel
theorem d_Law_when_176 : decode M_Law_when.2.1 176 = .ok (.invokevirtual 37, 3) := by decide +kernel
theorem d_Law_when_179 : decode M_Law_when.2.1 179 = .ok (.iload_n 1, 1) := by decide +kernel
theorem d_Law_when_180 : decode M_Law_when.2.1 180 = .ok (.invokevirtual 41, 3) := by decide +kernel
theorem d_Law_when_183 : decode M_Law_when.2.1 183 = .ok (.invokevirtual 44, 3) := by decide +kernel
theorem d_Law_when_186 : decode M_Law_when.2.1 186 = .ok (.areturn, 1) := by decide +kernel
theorem d_Law_when_187 : decode M_Law_when.2.1 187 = .ok (.new 32, 3) := by decide +kernel
theorem d_Law_when_190 : decode M_Law_when.2.1 190 = .ok (.dup, 1) := by decide +kernel
theorem d_Law_when_191 : decode M_Law_when.2.1 191 = .ok (.invokespecial 34, 3) := by decide +kernel
theorem d_Law_when_194 : decode M_Law_when.2.1 194 = .ok (.ldc 92, 2) := by decide +kernel
theorem d_Law_when_196 : decode M_Law_when.2.1 196 = .ok (.invokevirtual 37, 3) := by decide +kernel
theorem d_Law_when_199 : decode M_Law_when.2.1 199 = .ok (.aload_n 0, 1) := by decide +kernel
theorem d_Law_when_200 : decode M_Law_when.2.1 200 = .ok (.bipush 8, 2) := by decide +kernel
theorem d_Law_when_202 : decode M_Law_when.2.1 202 = .ok (.iaload, 1) := by decide +kernel
theorem d_Law_when_203 : decode M_Law_when.2.1 203 = .ok (.invokevirtual 41, 3) := by decide +kernel
theorem d_Law_when_206 : decode M_Law_when.2.1 206 = .ok (.ldc 94, 2) := by decide +kernel
theorem d_Law_when_208 : decode M_Law_when.2.1 208 = .ok (.invokevirtual 37, 3) := by decide +kernel
theorem d_Law_when_211 : decode M_Law_when.2.1 211 = .ok (.aload_n 0, 1) := by decide +kernel
theorem d_Law_when_212 : decode M_Law_when.2.1 212 = .ok (.bipush 8, 2) := by decide +kernel
theorem d_Law_when_214 : decode M_Law_when.2.1 214 = .ok (.iaload, 1) := by decide +kernel
theorem d_Law_when_215 : decode M_Law_when.2.1 215 = .ok (.invokevirtual 41, 3) := by decide +kernel
theorem d_Law_when_218 : decode M_Law_when.2.1 218 = .ok (.ldc 96, 2) := by decide +kernel
theorem d_Law_when_220 : decode M_Law_when.2.1 220 = .ok (.invokevirtual 37, 3) := by decide +kernel
theorem d_Law_when_223 : decode M_Law_when.2.1 223 = .ok (.bipush 6, 2) := by decide +kernel
theorem d_Law_when_225 : decode M_Law_when.2.1 225 = .ok (.iload_n 1, 1) := by decide +kernel
theorem d_Law_when_226 : decode M_Law_when.2.1 226 = .ok (.imul, 1) := by decide +kernel
theorem d_Law_when_227 : decode M_Law_when.2.1 227 = .ok (.invokevirtual 41, 3) := by decide +kernel
theorem d_Law_when_230 : decode M_Law_when.2.1 230 = .ok (.invokevirtual 44, 3) := by decide +kernel
theorem d_Law_when_233 : decode M_Law_when.2.1 233 = .ok (.areturn, 1) := by decide +kernel
theorem d_Law_when_234 : decode M_Law_when.2.1 234 = .ok (.new 32, 3) := by decide +kernel
theorem d_Law_when_237 : decode M_Law_when.2.1 237 = .ok (.dup, 1) := by decide +kernel
theorem d_Law_when_238 : decode M_Law_when.2.1 238 = .ok (.invokespecial 34, 3) := by decide +kernel
theorem d_Law_when_241 : decode M_Law_when.2.1 241 = .ok (.ldc 98, 2) := by decide +kernel
theorem d_Law_when_243 : decode M_Law_when.2.1 243 = .ok (.invokevirtual 37, 3) := by decide +kernel
theorem d_Law_when_246 : decode M_Law_when.2.1 246 = .ok (.aload_n 0, 1) := by decide +kernel
theorem d_Law_when_247 : decode M_Law_when.2.1 247 = .ok (.bipush 8, 2) := by decide +kernel
theorem d_Law_when_249 : decode M_Law_when.2.1 249 = .ok (.iaload, 1) := by decide +kernel
theorem d_Law_when_250 : decode M_Law_when.2.1 250 = .ok (.invokevirtual 41, 3) := by decide +kernel
theorem d_Law_when_253 : decode M_Law_when.2.1 253 = .ok (.ldc 100, 2) := by decide +kernel
theorem d_Law_when_255 : decode M_Law_when.2.1 255 = .ok (.invokevirtual 37, 3) := by decide +kernel
theorem d_Law_when_258 : decode M_Law_when.2.1 258 = .ok (.invokevirtual 44, 3) := by decide +kernel
theorem d_Law_when_261 : decode M_Law_when.2.1 261 = .ok (.areturn, 1) := by decide +kernel
theorem d_Law_when_262 : decode M_Law_when.2.1 262 = .ok (.new 32, 3) := by decide +kernel
theorem d_Law_when_265 : decode M_Law_when.2.1 265 = .ok (.dup, 1) := by decide +kernel
theorem d_Law_when_266 : decode M_Law_when.2.1 266 = .ok (.invokespecial 34, 3) := by decide +kernel
theorem d_Law_when_269 : decode M_Law_when.2.1 269 = .ok (.ldc 102, 2) := by decide +kernel
theorem d_Law_when_271 : decode M_Law_when.2.1 271 = .ok (.invokevirtual 37, 3) := by decide +kernel
theorem d_Law_when_274 : decode M_Law_when.2.1 274 = .ok (.aload_n 0, 1) := by decide +kernel
theorem d_Law_when_275 : decode M_Law_when.2.1 275 = .ok (.bipush 9, 2) := by decide +kernel
theorem d_Law_when_277 : decode M_Law_when.2.1 277 = .ok (.iaload, 1) := by decide +kernel
theorem d_Law_when_278 : decode M_Law_when.2.1 278 = .ok (.invokevirtual 41, 3) := by decide +kernel
theorem d_Law_when_281 : decode M_Law_when.2.1 281 = .ok (.ldc 104, 2) := by decide +kernel
theorem d_Law_when_283 : decode M_Law_when.2.1 283 = .ok (.invokevirtual 37, 3) := by decide +kernel
theorem d_Law_when_286 : decode M_Law_when.2.1 286 = .ok (.iload_n 1, 1) := by decide +kernel
theorem d_Law_when_287 : decode M_Law_when.2.1 287 = .ok (.invokevirtual 41, 3) := by decide +kernel
theorem d_Law_when_290 : decode M_Law_when.2.1 290 = .ok (.ldc 106, 2) := by decide +kernel
theorem d_Law_when_292 : decode M_Law_when.2.1 292 = .ok (.invokevirtual 37, 3) := by decide +kernel
theorem d_Law_when_295 : decode M_Law_when.2.1 295 = .ok (.iload_n 1, 1) := by decide +kernel
theorem d_Law_when_296 : decode M_Law_when.2.1 296 = .ok (.invokevirtual 41, 3) := by decide +kernel
theorem d_Law_when_299 : decode M_Law_when.2.1 299 = .ok (.invokevirtual 44, 3) := by decide +kernel
theorem d_Law_when_302 : decode M_Law_when.2.1 302 = .ok (.areturn, 1) := by decide +kernel
theorem d_Law_when_303 : decode M_Law_when.2.1 303 = .ok (.new 32, 3) := by decide +kernel
theorem d_Law_when_306 : decode M_Law_when.2.1 306 = .ok (.dup, 1) := by decide +kernel
theorem d_Law_when_307 : decode M_Law_when.2.1 307 = .ok (.invokespecial 34, 3) := by decide +kernel
theorem d_Law_when_310 : decode M_Law_when.2.1 310 = .ok (.ldc 108, 2) := by decide +kernel
theorem d_Law_when_312 : decode M_Law_when.2.1 312 = .ok (.invokevirtual 37, 3) := by decide +kernel
theorem d_Law_when_315 : decode M_Law_when.2.1 315 = .ok (.aload_n 0, 1) := by decide +kernel
theorem d_Law_when_316 : decode M_Law_when.2.1 316 = .ok (.bipush 9, 2) := by decide +kernel
theorem d_Law_when_318 : decode M_Law_when.2.1 318 = .ok (.iaload, 1) := by decide +kernel
theorem d_Law_when_319 : decode M_Law_when.2.1 319 = .ok (.invokevirtual 41, 3) := by decide +kernel
theorem d_Law_when_322 : decode M_Law_when.2.1 322 = .ok (.ldc 110, 2) := by decide +kernel
theorem d_Law_when_324 : decode M_Law_when.2.1 324 = .ok (.invokevirtual 37, 3) := by decide +kernel
theorem d_Law_when_327 : decode M_Law_when.2.1 327 = .ok (.iload_n 1, 1) := by decide +kernel
theorem d_Law_when_328 : decode M_Law_when.2.1 328 = .ok (.iconst 3, 1) := by decide +kernel
theorem d_Law_when_329 : decode M_Law_when.2.1 329 = .ok (.irem, 1) := by decide +kernel
theorem d_Law_when_330 : decode M_Law_when.2.1 330 = .ok (.invokevirtual 41, 3) := by decide +kernel
theorem d_Law_when_333 : decode M_Law_when.2.1 333 = .ok (.invokevirtual 44, 3) := by decide +kernel
theorem d_Law_when_336 : decode M_Law_when.2.1 336 = .ok (.areturn, 1) := by decide +kernel
theorem d_Law_when_337 : decode M_Law_when.2.1 337 = .ok (.new 32, 3) := by decide +kernel
theorem d_Law_when_340 : decode M_Law_when.2.1 340 = .ok (.dup, 1) := by decide +kernel
theorem d_Law_when_341 : decode M_Law_when.2.1 341 = .ok (.invokespecial 34, 3) := by decide +kernel
theorem d_Law_when_344 : decode M_Law_when.2.1 344 = .ok (.ldc 112, 2) := by decide +kernel
theorem d_Law_when_346 : decode M_Law_when.2.1 346 = .ok (.invokevirtual 37, 3) := by decide +kernel
theorem d_Law_when_349 : decode M_Law_when.2.1 349 = .ok (.iload_n 1, 1) := by decide +kernel
theorem d_Law_when_350 : decode M_Law_when.2.1 350 = .ok (.invokevirtual 41, 3) := by decide +kernel
theorem d_Law_when_353 : decode M_Law_when.2.1 353 = .ok (.ldc 114, 2) := by decide +kernel
theorem d_Law_when_355 : decode M_Law_when.2.1 355 = .ok (.invokevirtual 37, 3) := by decide +kernel
theorem d_Law_when_358 : decode M_Law_when.2.1 358 = .ok (.iload_n 1, 1) := by decide +kernel
theorem d_Law_when_359 : decode M_Law_when.2.1 359 = .ok (.invokevirtual 41, 3) := by decide +kernel
theorem d_Law_when_362 : decode M_Law_when.2.1 362 = .ok (.invokevirtual 44, 3) := by decide +kernel
theorem d_Law_when_365 : decode M_Law_when.2.1 365 = .ok (.areturn, 1) := by decide +kernel
/-- the text of an order's test; o5: which one, or -1 -/
def whenT (o : Nat → Nat) (o5 : Int32) : List Int32 := if o5 = -1 then tx74 else if o5 = 0 then (([] ++ tx76) ++ dec (o 6)) else if o5 = 1 then ((((([] ++ tx78) ++ dec (o 9)) ++ tx80) ++ dec (o 6)) ++ tx82) else if o5 = 2 then (([] ++ tx84) ++ dec (o 7)) else if o5 = 3 then (((((([] ++ tx86) ++ dec (o 7)) ++ tx88) ++ dec (o 7)) ++ tx90) ++ dec (o 6)) else if o5 = 4 then (((((([] ++ tx92) ++ dec (o 8)) ++ tx94) ++ dec (o 8)) ++ tx96) ++ dec (6 * o 6)) else if o5 = 5 then ((([] ++ tx98) ++ dec (o 8)) ++ tx100) else if o5 = 6 then (((((([] ++ tx102) ++ dec (o 9)) ++ tx104) ++ dec (o 6)) ++ tx106) ++ dec (o 6)) else if o5 = 7 then (((([] ++ tx108) ++ dec (o 9)) ++ tx110) ++ dec (o 6 % 3)) else (((([] ++ tx112) ++ dec (o 6)) ++ tx114) ++ dec (o 6))
theorem d_Law_when_0 : decode M_Law_when.2.1 0 = .ok (.aload_n 0, 1) := by decide +kernel
theorem d_Law_when_1 : decode M_Law_when.2.1 1 = .ok (.bipush 6, 2) := by decide +kernel
theorem d_Law_when_3 : decode M_Law_when.2.1 3 = .ok (.iaload, 1) := by decide +kernel
theorem d_Law_when_4 : decode M_Law_when.2.1 4 = .ok (.istore_n 1, 1) := by decide +kernel
theorem d_Law_when_5 : decode M_Law_when.2.1 5 = .ok (.aload_n 0, 1) := by decide +kernel
theorem d_Law_when_6 : decode M_Law_when.2.1 6 = .ok (.iconst 5, 1) := by decide +kernel
theorem d_Law_when_7 : decode M_Law_when.2.1 7 = .ok (.iaload, 1) := by decide +kernel
theorem d_Law_when_8 : decode M_Law_when.2.1 8 = .ok (.tableswitch 329 (-1) 7 #[52, 55, 75, 112, 135, 179, 226, 254, 295], 52) := by decide +kernel
theorem d_Law_when_60 : decode M_Law_when.2.1 60 = .ok (.ldc 74, 2) := by decide +kernel
theorem d_Law_when_62 : decode M_Law_when.2.1 62 = .ok (.areturn, 1) := by decide +kernel
set_option maxRecDepth 100000 in
set_option maxHeartbeats 4000000 in
theorem c_when {Γ : G9} {ls : Nat → Nat} {h : AH} {z oa : Nat} {f : Nat → Int32} {o : Nat → Nat} (hk : CsOk Γ) (hp : PrOk Γ) (hdg : DgOk Γ) (hls : LsOk Γ ls) (ho : h oa = some (aI Γ 12 f)) (hf : ∀ j, j ≠ 5 → f j = nI (o j)) (hob : ∀ j, o j < 100) (h6 : o 6 < 9) (h5 : f 5 = -1 ∨ f 5 = 0 ∨ f 5 = 1 ∨ f 5 = 2 ∨ f 5 = 3 ∨ f 5 = 4 ∨ f 5 = 5 ∨ f 5 = 6 ∨ f 5 = 7 ∨ f 5 = 8) : Call Γ M_Law_when 8 11 16000 [.ref oa] h z (fun w h2 _ => ∃ c : Nat, w = some (.ref c) ∧ Ext h h2 ∧ STN Γ h h2 c (whenT o (f 5))) noX := by
  have dl := fun j => dec_2 (hob j)
  have d4 := dl 4
  have d6 := dl 6
  have d7 := dl 7
  have d8 := dl 8
  have d9 := dl 9
  have d10 := dl 10
  have d11 := dl 11
  have b4 := hob 4
  have b6 := hob 6
  have b7 := hob 7
  have b8 := hob 8
  have b9 := hob 9
  have b10 := hob 10
  have b11 := hob 11
  have d66 := dec_2 (show 6 * o 6 < 100 by omega)
  have d63 := dec_1 (show o 6 % 3 < 10 by omega)
  refine Call.of_go (L := [some (.ref oa), none]) (by decide +kernel) rfl (by exact Nat.le_of_ble_eq_true rfl) ?_
  unfold whenT
  refine Go.aload_0 d_Law_when_0 rfl ?_
  refine Go.bipush (v := 6) d_Law_when_1 rfl (by decide) ?_
  refine Go.iaload d_Law_when_3 rfl ho (okI_in (by decide)) ?_
  rw [show (6 : Int32).toNatClampNeg = 6 from by decide, hf 6 (by decide)]
  refine Go.istore_1 d_Law_when_4 rfl (by rfl) ?_
  refine Go.aload_0 d_Law_when_5 rfl ?_
  refine Go.iconst (v := 5) d_Law_when_6 rfl (by decide) ?_
  refine Go.iaload d_Law_when_7 rfl ho (okI_in (by decide)) ?_
  rw [show (5 : Int32).toNatClampNeg = 5 from by decide]
  by_cases em : f 5 = -1
  · rw [if_pos em]
    refine Go.tsw (t := 60) d_Law_when_8 (by rw [em]; rfl) ?_
    refine Go.ldcS d_Law_when_60 rfl rfl (hls.t74).1 ?_
    exact Go.aret d_Law_when_62 rfl ⟨_, rfl, Ext.rf, Or.inl (hls.t74).2⟩
  rw [if_neg em]
  by_cases e0 : f 5 = 0
  · rw [if_pos e0]
    refine Go.tsw (t := 63) d_Law_when_8 (by rw [e0]; rfl) ?_
    refine Go.low (fun hlow => ?_)
    refine Go.new (ci := 10) (C1 := 10) (S1 := 15996) (fs := [.null, .int 0, .int 0, .int 0]) ty_StringBuilder d_Law_when_63 rfl rfl cw_StringBuilder ty_StringBuilder_ok x_lkSB x_insSB x_iniSB n9_fs_SB (by omega) (by omega) ?_
    refine Go.dup d_Law_when_66 rfl rfl ?_
    refine Go.callI (C1 := 9) (S1 := 15980) (as := []) d_Law_when_67 rfl (Or.inl l_Law_34) k_StringBuilder_init_n rfl rfl (c_sb_init hk hup_at) (by decide) (by decide) (by omega) (by omega) (Nat.le_of_ble_eq_true rfl) (fun _ _ _ w _ => w.elim) (fun v9 h9 z9 w9 hz9 => ?_)
    obtain ⟨rfl, hs, rfl⟩ := w9
    rw [hdel_up (hlow _ (Nat.le_refl _))] at hs
    clear hz9
    refine Go.ldcS d_Law_when_70 rfl rfl (hls.t76).1 ?_
    obtain ⟨v8, n8, hb⟩ := hs.obj
    refine Go.callV (C1 := 8) (S1 := 13578) (as := [.ref (ls 76)]) d_Law_when_72 rfl l_Law_37 k_StringBuilder_append_1_v rfl hb rfl rfl (c_append hk hp hs (Or.inl (hls.t76).2) LB_tx76 (by simp only [List.length_append, List.length_nil, len_tx35, len_tx48, len_tx50, len_tx52, len_tx54, len_tx56, len_tx58, len_tx60, len_tx62, len_tx64, len_tx66, len_tx68, len_tx70, len_tx72, len_tx74, len_tx76, len_tx78, len_tx80, len_tx82, len_tx84, len_tx86, len_tx88, len_tx90, len_tx92, len_tx94, len_tx96, len_tx98, len_tx100, len_tx102, len_tx104, len_tx106, len_tx108, len_tx110, len_tx112, len_tx114, len_tx135, len_tx137, len_tx139, len_tx141, len_tx143, len_tx148, len_tx150, len_tx152, len_tx157, len_tx159, len_tx161, len_tx166, len_tx168, len_tx173, len_tx175, len_tx180, len_tx182, len_tx187, len_tx189, len_tx191, len_tx193, len_tx195, len_tx197, len_tx203, len_tx208]; omega)) (by decide) (by decide) (by omega) (by omega) (by exact Nat.le_of_ble_eq_true rfl) (fun _ _ _ w _ => w.elim) (fun v9 h9 z9 w9 hz9 => ?_)
    clear hs hb hz9
    obtain ⟨rfl, hs, hz9⟩ := w9
    refine Go.iload_1 d_Law_when_75 rfl ?_
    obtain ⟨v8, n8, hb⟩ := hs.obj
    refine Go.callV (C1 := 7) (S1 := 11176) (as := [.int (nI (o 6))]) d_Law_when_76 rfl l_Law_41 k_StringBuilder_append_0_v rfl hb rfl rfl (c_appendI (v0 := o 6) hk hp hdg hs (by omega) (by simp only [List.length_append, List.length_nil, len_tx35, len_tx48, len_tx50, len_tx52, len_tx54, len_tx56, len_tx58, len_tx60, len_tx62, len_tx64, len_tx66, len_tx68, len_tx70, len_tx72, len_tx74, len_tx76, len_tx78, len_tx80, len_tx82, len_tx84, len_tx86, len_tx88, len_tx90, len_tx92, len_tx94, len_tx96, len_tx98, len_tx100, len_tx102, len_tx104, len_tx106, len_tx108, len_tx110, len_tx112, len_tx114, len_tx135, len_tx137, len_tx139, len_tx141, len_tx143, len_tx148, len_tx150, len_tx152, len_tx157, len_tx159, len_tx161, len_tx166, len_tx168, len_tx173, len_tx175, len_tx180, len_tx182, len_tx187, len_tx189, len_tx191, len_tx193, len_tx195, len_tx197, len_tx203, len_tx208]; omega)) (by decide) (by decide) (by omega) (by omega) (by exact Nat.le_of_ble_eq_true rfl) (fun _ _ _ w _ => w.elim) (fun v9 h9 z9 w9 hz9 => ?_)
    clear hs hb hz9
    obtain ⟨rfl, hs, hz9⟩ := w9
    obtain ⟨v8, n8, hb⟩ := hs.obj
    refine Go.callV (C1 := 5) (S1 := 11072) (as := []) d_Law_when_79 rfl l_Law_44 k_StringBuilder_toString_v rfl hb rfl rfl (c_toStr hk hs) (by decide) (by decide) (by omega) (by simp only [List.length_append, List.length_nil, len_tx35, len_tx48, len_tx50, len_tx52, len_tx54, len_tx56, len_tx58, len_tx60, len_tx62, len_tx64, len_tx66, len_tx68, len_tx70, len_tx72, len_tx74, len_tx76, len_tx78, len_tx80, len_tx82, len_tx84, len_tx86, len_tx88, len_tx90, len_tx92, len_tx94, len_tx96, len_tx98, len_tx100, len_tx102, len_tx104, len_tx106, len_tx108, len_tx110, len_tx112, len_tx114, len_tx135, len_tx137, len_tx139, len_tx141, len_tx143, len_tx148, len_tx150, len_tx152, len_tx157, len_tx159, len_tx161, len_tx166, len_tx168, len_tx173, len_tx175, len_tx180, len_tx182, len_tx187, len_tx189, len_tx191, len_tx193, len_tx195, len_tx197, len_tx203, len_tx208]; omega) (by exact Nat.le_of_ble_eq_true rfl) (fun _ _ _ w _ => w.elim) (fun v9 h9 z9 w9 hz9 => ?_)
    obtain ⟨c9, rfl, he9, hst9⟩ := w9
    exact Go.aret d_Law_when_82 rfl ⟨c9, rfl, hs.rd.tr he9, Or.inr (hst9.of hs.rd)⟩
  rw [if_neg e0]
  by_cases e1 : f 5 = 1
  · rw [if_pos e1]
    refine Go.tsw (t := 83) d_Law_when_8 (by rw [e1]; rfl) ?_
    refine Go.low (fun hlow => ?_)
    refine Go.new (ci := 10) (C1 := 10) (S1 := 15996) (fs := [.null, .int 0, .int 0, .int 0]) ty_StringBuilder d_Law_when_83 rfl rfl cw_StringBuilder ty_StringBuilder_ok x_lkSB x_insSB x_iniSB n9_fs_SB (by omega) (by omega) ?_
    refine Go.dup d_Law_when_86 rfl rfl ?_
    refine Go.callI (C1 := 9) (S1 := 15980) (as := []) d_Law_when_87 rfl (Or.inl l_Law_34) k_StringBuilder_init_n rfl rfl (c_sb_init hk hup_at) (by decide) (by decide) (by omega) (by omega) (Nat.le_of_ble_eq_true rfl) (fun _ _ _ w _ => w.elim) (fun v9 h9 z9 w9 hz9 => ?_)
    obtain ⟨rfl, hs, rfl⟩ := w9
    rw [hdel_up (hlow _ (Nat.le_refl _))] at hs
    clear hz9
    refine Go.ldcS d_Law_when_90 rfl rfl (hls.t78).1 ?_
    obtain ⟨v8, n8, hb⟩ := hs.obj
    refine Go.callV (C1 := 8) (S1 := 13578) (as := [.ref (ls 78)]) d_Law_when_92 rfl l_Law_37 k_StringBuilder_append_1_v rfl hb rfl rfl (c_append hk hp hs (Or.inl (hls.t78).2) LB_tx78 (by simp only [List.length_append, List.length_nil, len_tx35, len_tx48, len_tx50, len_tx52, len_tx54, len_tx56, len_tx58, len_tx60, len_tx62, len_tx64, len_tx66, len_tx68, len_tx70, len_tx72, len_tx74, len_tx76, len_tx78, len_tx80, len_tx82, len_tx84, len_tx86, len_tx88, len_tx90, len_tx92, len_tx94, len_tx96, len_tx98, len_tx100, len_tx102, len_tx104, len_tx106, len_tx108, len_tx110, len_tx112, len_tx114, len_tx135, len_tx137, len_tx139, len_tx141, len_tx143, len_tx148, len_tx150, len_tx152, len_tx157, len_tx159, len_tx161, len_tx166, len_tx168, len_tx173, len_tx175, len_tx180, len_tx182, len_tx187, len_tx189, len_tx191, len_tx193, len_tx195, len_tx197, len_tx203, len_tx208]; omega)) (by decide) (by decide) (by omega) (by omega) (by exact Nat.le_of_ble_eq_true rfl) (fun _ _ _ w _ => w.elim) (fun v9 h9 z9 w9 hz9 => ?_)
    clear hs hb hz9
    obtain ⟨rfl, hs, hz9⟩ := w9
    refine Go.aload_0 d_Law_when_95 rfl ?_
    refine Go.bipush (v := 9) d_Law_when_96 rfl (by decide) ?_
    refine Go.iaload d_Law_when_98 rfl (hs.rd _ _ ho) (okI_in (by decide)) ?_
    rw [show (9 : Int32).toNatClampNeg = 9 from by decide, hf 9 (by decide)]
    obtain ⟨v8, n8, hb⟩ := hs.obj
    refine Go.callV (C1 := 7) (S1 := 11176) (as := [.int (nI (o 9))]) d_Law_when_99 rfl l_Law_41 k_StringBuilder_append_0_v rfl hb rfl rfl (c_appendI (v0 := o 9) hk hp hdg hs (by omega) (by simp only [List.length_append, List.length_nil, len_tx35, len_tx48, len_tx50, len_tx52, len_tx54, len_tx56, len_tx58, len_tx60, len_tx62, len_tx64, len_tx66, len_tx68, len_tx70, len_tx72, len_tx74, len_tx76, len_tx78, len_tx80, len_tx82, len_tx84, len_tx86, len_tx88, len_tx90, len_tx92, len_tx94, len_tx96, len_tx98, len_tx100, len_tx102, len_tx104, len_tx106, len_tx108, len_tx110, len_tx112, len_tx114, len_tx135, len_tx137, len_tx139, len_tx141, len_tx143, len_tx148, len_tx150, len_tx152, len_tx157, len_tx159, len_tx161, len_tx166, len_tx168, len_tx173, len_tx175, len_tx180, len_tx182, len_tx187, len_tx189, len_tx191, len_tx193, len_tx195, len_tx197, len_tx203, len_tx208]; omega)) (by decide) (by decide) (by omega) (by omega) (by exact Nat.le_of_ble_eq_true rfl) (fun _ _ _ w _ => w.elim) (fun v9 h9 z9 w9 hz9 => ?_)
    clear hs hb hz9
    obtain ⟨rfl, hs, hz9⟩ := w9
    refine Go.ldcS d_Law_when_102 rfl rfl (hls.t80).1 ?_
    obtain ⟨v8, n8, hb⟩ := hs.obj
    refine Go.callV (C1 := 6) (S1 := 8774) (as := [.ref (ls 80)]) d_Law_when_104 rfl l_Law_37 k_StringBuilder_append_1_v rfl hb rfl rfl (c_append hk hp hs (Or.inl (hls.t80).2) LB_tx80 (by simp only [List.length_append, List.length_nil, len_tx35, len_tx48, len_tx50, len_tx52, len_tx54, len_tx56, len_tx58, len_tx60, len_tx62, len_tx64, len_tx66, len_tx68, len_tx70, len_tx72, len_tx74, len_tx76, len_tx78, len_tx80, len_tx82, len_tx84, len_tx86, len_tx88, len_tx90, len_tx92, len_tx94, len_tx96, len_tx98, len_tx100, len_tx102, len_tx104, len_tx106, len_tx108, len_tx110, len_tx112, len_tx114, len_tx135, len_tx137, len_tx139, len_tx141, len_tx143, len_tx148, len_tx150, len_tx152, len_tx157, len_tx159, len_tx161, len_tx166, len_tx168, len_tx173, len_tx175, len_tx180, len_tx182, len_tx187, len_tx189, len_tx191, len_tx193, len_tx195, len_tx197, len_tx203, len_tx208]; omega)) (by decide) (by decide) (by omega) (by omega) (by exact Nat.le_of_ble_eq_true rfl) (fun _ _ _ w _ => w.elim) (fun v9 h9 z9 w9 hz9 => ?_)
    clear hs hb hz9
    obtain ⟨rfl, hs, hz9⟩ := w9
    refine Go.iload_1 d_Law_when_107 rfl ?_
    obtain ⟨v8, n8, hb⟩ := hs.obj
    refine Go.callV (C1 := 5) (S1 := 6372) (as := [.int (nI (o 6))]) d_Law_when_108 rfl l_Law_41 k_StringBuilder_append_0_v rfl hb rfl rfl (c_appendI (v0 := o 6) hk hp hdg hs (by omega) (by simp only [List.length_append, List.length_nil, len_tx35, len_tx48, len_tx50, len_tx52, len_tx54, len_tx56, len_tx58, len_tx60, len_tx62, len_tx64, len_tx66, len_tx68, len_tx70, len_tx72, len_tx74, len_tx76, len_tx78, len_tx80, len_tx82, len_tx84, len_tx86, len_tx88, len_tx90, len_tx92, len_tx94, len_tx96, len_tx98, len_tx100, len_tx102, len_tx104, len_tx106, len_tx108, len_tx110, len_tx112, len_tx114, len_tx135, len_tx137, len_tx139, len_tx141, len_tx143, len_tx148, len_tx150, len_tx152, len_tx157, len_tx159, len_tx161, len_tx166, len_tx168, len_tx173, len_tx175, len_tx180, len_tx182, len_tx187, len_tx189, len_tx191, len_tx193, len_tx195, len_tx197, len_tx203, len_tx208]; omega)) (by decide) (by decide) (by omega) (by omega) (by exact Nat.le_of_ble_eq_true rfl) (fun _ _ _ w _ => w.elim) (fun v9 h9 z9 w9 hz9 => ?_)
    clear hs hb hz9
    obtain ⟨rfl, hs, hz9⟩ := w9
    refine Go.ldcS d_Law_when_111 rfl rfl (hls.t82).1 ?_
    obtain ⟨v8, n8, hb⟩ := hs.obj
    refine Go.callV (C1 := 4) (S1 := 3970) (as := [.ref (ls 82)]) d_Law_when_113 rfl l_Law_37 k_StringBuilder_append_1_v rfl hb rfl rfl (c_append hk hp hs (Or.inl (hls.t82).2) LB_tx82 (by simp only [List.length_append, List.length_nil, len_tx35, len_tx48, len_tx50, len_tx52, len_tx54, len_tx56, len_tx58, len_tx60, len_tx62, len_tx64, len_tx66, len_tx68, len_tx70, len_tx72, len_tx74, len_tx76, len_tx78, len_tx80, len_tx82, len_tx84, len_tx86, len_tx88, len_tx90, len_tx92, len_tx94, len_tx96, len_tx98, len_tx100, len_tx102, len_tx104, len_tx106, len_tx108, len_tx110, len_tx112, len_tx114, len_tx135, len_tx137, len_tx139, len_tx141, len_tx143, len_tx148, len_tx150, len_tx152, len_tx157, len_tx159, len_tx161, len_tx166, len_tx168, len_tx173, len_tx175, len_tx180, len_tx182, len_tx187, len_tx189, len_tx191, len_tx193, len_tx195, len_tx197, len_tx203, len_tx208]; omega)) (by decide) (by decide) (by omega) (by omega) (by exact Nat.le_of_ble_eq_true rfl) (fun _ _ _ w _ => w.elim) (fun v9 h9 z9 w9 hz9 => ?_)
    clear hs hb hz9
    obtain ⟨rfl, hs, hz9⟩ := w9
    obtain ⟨v8, n8, hb⟩ := hs.obj
    refine Go.callV (C1 := 2) (S1 := 3866) (as := []) d_Law_when_116 rfl l_Law_44 k_StringBuilder_toString_v rfl hb rfl rfl (c_toStr hk hs) (by decide) (by decide) (by omega) (by simp only [List.length_append, List.length_nil, len_tx35, len_tx48, len_tx50, len_tx52, len_tx54, len_tx56, len_tx58, len_tx60, len_tx62, len_tx64, len_tx66, len_tx68, len_tx70, len_tx72, len_tx74, len_tx76, len_tx78, len_tx80, len_tx82, len_tx84, len_tx86, len_tx88, len_tx90, len_tx92, len_tx94, len_tx96, len_tx98, len_tx100, len_tx102, len_tx104, len_tx106, len_tx108, len_tx110, len_tx112, len_tx114, len_tx135, len_tx137, len_tx139, len_tx141, len_tx143, len_tx148, len_tx150, len_tx152, len_tx157, len_tx159, len_tx161, len_tx166, len_tx168, len_tx173, len_tx175, len_tx180, len_tx182, len_tx187, len_tx189, len_tx191, len_tx193, len_tx195, len_tx197, len_tx203, len_tx208]; omega) (by exact Nat.le_of_ble_eq_true rfl) (fun _ _ _ w _ => w.elim) (fun v9 h9 z9 w9 hz9 => ?_)
    obtain ⟨c9, rfl, he9, hst9⟩ := w9
    exact Go.aret d_Law_when_119 rfl ⟨c9, rfl, hs.rd.tr he9, Or.inr (hst9.of hs.rd)⟩
  rw [if_neg e1]
  by_cases e2 : f 5 = 2
  · rw [if_pos e2]
    refine Go.tsw (t := 120) d_Law_when_8 (by rw [e2]; rfl) ?_
    refine Go.low (fun hlow => ?_)
    refine Go.new (ci := 10) (C1 := 10) (S1 := 15996) (fs := [.null, .int 0, .int 0, .int 0]) ty_StringBuilder d_Law_when_120 rfl rfl cw_StringBuilder ty_StringBuilder_ok x_lkSB x_insSB x_iniSB n9_fs_SB (by omega) (by omega) ?_
    refine Go.dup d_Law_when_123 rfl rfl ?_
    refine Go.callI (C1 := 9) (S1 := 15980) (as := []) d_Law_when_124 rfl (Or.inl l_Law_34) k_StringBuilder_init_n rfl rfl (c_sb_init hk hup_at) (by decide) (by decide) (by omega) (by omega) (Nat.le_of_ble_eq_true rfl) (fun _ _ _ w _ => w.elim) (fun v9 h9 z9 w9 hz9 => ?_)
    obtain ⟨rfl, hs, rfl⟩ := w9
    rw [hdel_up (hlow _ (Nat.le_refl _))] at hs
    clear hz9
    refine Go.ldcS d_Law_when_127 rfl rfl (hls.t84).1 ?_
    obtain ⟨v8, n8, hb⟩ := hs.obj
    refine Go.callV (C1 := 8) (S1 := 13578) (as := [.ref (ls 84)]) d_Law_when_129 rfl l_Law_37 k_StringBuilder_append_1_v rfl hb rfl rfl (c_append hk hp hs (Or.inl (hls.t84).2) LB_tx84 (by simp only [List.length_append, List.length_nil, len_tx35, len_tx48, len_tx50, len_tx52, len_tx54, len_tx56, len_tx58, len_tx60, len_tx62, len_tx64, len_tx66, len_tx68, len_tx70, len_tx72, len_tx74, len_tx76, len_tx78, len_tx80, len_tx82, len_tx84, len_tx86, len_tx88, len_tx90, len_tx92, len_tx94, len_tx96, len_tx98, len_tx100, len_tx102, len_tx104, len_tx106, len_tx108, len_tx110, len_tx112, len_tx114, len_tx135, len_tx137, len_tx139, len_tx141, len_tx143, len_tx148, len_tx150, len_tx152, len_tx157, len_tx159, len_tx161, len_tx166, len_tx168, len_tx173, len_tx175, len_tx180, len_tx182, len_tx187, len_tx189, len_tx191, len_tx193, len_tx195, len_tx197, len_tx203, len_tx208]; omega)) (by decide) (by decide) (by omega) (by omega) (by exact Nat.le_of_ble_eq_true rfl) (fun _ _ _ w _ => w.elim) (fun v9 h9 z9 w9 hz9 => ?_)
    clear hs hb hz9
    obtain ⟨rfl, hs, hz9⟩ := w9
    refine Go.aload_0 d_Law_when_132 rfl ?_
    refine Go.bipush (v := 7) d_Law_when_133 rfl (by decide) ?_
    refine Go.iaload d_Law_when_135 rfl (hs.rd _ _ ho) (okI_in (by decide)) ?_
    rw [show (7 : Int32).toNatClampNeg = 7 from by decide, hf 7 (by decide)]
    obtain ⟨v8, n8, hb⟩ := hs.obj
    refine Go.callV (C1 := 7) (S1 := 11176) (as := [.int (nI (o 7))]) d_Law_when_136 rfl l_Law_41 k_StringBuilder_append_0_v rfl hb rfl rfl (c_appendI (v0 := o 7) hk hp hdg hs (by omega) (by simp only [List.length_append, List.length_nil, len_tx35, len_tx48, len_tx50, len_tx52, len_tx54, len_tx56, len_tx58, len_tx60, len_tx62, len_tx64, len_tx66, len_tx68, len_tx70, len_tx72, len_tx74, len_tx76, len_tx78, len_tx80, len_tx82, len_tx84, len_tx86, len_tx88, len_tx90, len_tx92, len_tx94, len_tx96, len_tx98, len_tx100, len_tx102, len_tx104, len_tx106, len_tx108, len_tx110, len_tx112, len_tx114, len_tx135, len_tx137, len_tx139, len_tx141, len_tx143, len_tx148, len_tx150, len_tx152, len_tx157, len_tx159, len_tx161, len_tx166, len_tx168, len_tx173, len_tx175, len_tx180, len_tx182, len_tx187, len_tx189, len_tx191, len_tx193, len_tx195, len_tx197, len_tx203, len_tx208]; omega)) (by decide) (by decide) (by omega) (by omega) (by exact Nat.le_of_ble_eq_true rfl) (fun _ _ _ w _ => w.elim) (fun v9 h9 z9 w9 hz9 => ?_)
    clear hs hb hz9
    obtain ⟨rfl, hs, hz9⟩ := w9
    obtain ⟨v8, n8, hb⟩ := hs.obj
    refine Go.callV (C1 := 5) (S1 := 11072) (as := []) d_Law_when_139 rfl l_Law_44 k_StringBuilder_toString_v rfl hb rfl rfl (c_toStr hk hs) (by decide) (by decide) (by omega) (by simp only [List.length_append, List.length_nil, len_tx35, len_tx48, len_tx50, len_tx52, len_tx54, len_tx56, len_tx58, len_tx60, len_tx62, len_tx64, len_tx66, len_tx68, len_tx70, len_tx72, len_tx74, len_tx76, len_tx78, len_tx80, len_tx82, len_tx84, len_tx86, len_tx88, len_tx90, len_tx92, len_tx94, len_tx96, len_tx98, len_tx100, len_tx102, len_tx104, len_tx106, len_tx108, len_tx110, len_tx112, len_tx114, len_tx135, len_tx137, len_tx139, len_tx141, len_tx143, len_tx148, len_tx150, len_tx152, len_tx157, len_tx159, len_tx161, len_tx166, len_tx168, len_tx173, len_tx175, len_tx180, len_tx182, len_tx187, len_tx189, len_tx191, len_tx193, len_tx195, len_tx197, len_tx203, len_tx208]; omega) (by exact Nat.le_of_ble_eq_true rfl) (fun _ _ _ w _ => w.elim) (fun v9 h9 z9 w9 hz9 => ?_)
    obtain ⟨c9, rfl, he9, hst9⟩ := w9
    exact Go.aret d_Law_when_142 rfl ⟨c9, rfl, hs.rd.tr he9, Or.inr (hst9.of hs.rd)⟩
  rw [if_neg e2]
  by_cases e3 : f 5 = 3
  · rw [if_pos e3]
    refine Go.tsw (t := 143) d_Law_when_8 (by rw [e3]; rfl) ?_
    refine Go.low (fun hlow => ?_)
    refine Go.new (ci := 10) (C1 := 10) (S1 := 15996) (fs := [.null, .int 0, .int 0, .int 0]) ty_StringBuilder d_Law_when_143 rfl rfl cw_StringBuilder ty_StringBuilder_ok x_lkSB x_insSB x_iniSB n9_fs_SB (by omega) (by omega) ?_
    refine Go.dup d_Law_when_146 rfl rfl ?_
    refine Go.callI (C1 := 9) (S1 := 15980) (as := []) d_Law_when_147 rfl (Or.inl l_Law_34) k_StringBuilder_init_n rfl rfl (c_sb_init hk hup_at) (by decide) (by decide) (by omega) (by omega) (Nat.le_of_ble_eq_true rfl) (fun _ _ _ w _ => w.elim) (fun v9 h9 z9 w9 hz9 => ?_)
    obtain ⟨rfl, hs, rfl⟩ := w9
    rw [hdel_up (hlow _ (Nat.le_refl _))] at hs
    clear hz9
    refine Go.ldcS d_Law_when_150 rfl rfl (hls.t86).1 ?_
    obtain ⟨v8, n8, hb⟩ := hs.obj
    refine Go.callV (C1 := 8) (S1 := 13578) (as := [.ref (ls 86)]) d_Law_when_152 rfl l_Law_37 k_StringBuilder_append_1_v rfl hb rfl rfl (c_append hk hp hs (Or.inl (hls.t86).2) LB_tx86 (by simp only [List.length_append, List.length_nil, len_tx35, len_tx48, len_tx50, len_tx52, len_tx54, len_tx56, len_tx58, len_tx60, len_tx62, len_tx64, len_tx66, len_tx68, len_tx70, len_tx72, len_tx74, len_tx76, len_tx78, len_tx80, len_tx82, len_tx84, len_tx86, len_tx88, len_tx90, len_tx92, len_tx94, len_tx96, len_tx98, len_tx100, len_tx102, len_tx104, len_tx106, len_tx108, len_tx110, len_tx112, len_tx114, len_tx135, len_tx137, len_tx139, len_tx141, len_tx143, len_tx148, len_tx150, len_tx152, len_tx157, len_tx159, len_tx161, len_tx166, len_tx168, len_tx173, len_tx175, len_tx180, len_tx182, len_tx187, len_tx189, len_tx191, len_tx193, len_tx195, len_tx197, len_tx203, len_tx208]; omega)) (by decide) (by decide) (by omega) (by omega) (by exact Nat.le_of_ble_eq_true rfl) (fun _ _ _ w _ => w.elim) (fun v9 h9 z9 w9 hz9 => ?_)
    clear hs hb hz9
    obtain ⟨rfl, hs, hz9⟩ := w9
    refine Go.aload_0 d_Law_when_155 rfl ?_
    refine Go.bipush (v := 7) d_Law_when_156 rfl (by decide) ?_
    refine Go.iaload d_Law_when_158 rfl (hs.rd _ _ ho) (okI_in (by decide)) ?_
    rw [show (7 : Int32).toNatClampNeg = 7 from by decide, hf 7 (by decide)]
    obtain ⟨v8, n8, hb⟩ := hs.obj
    refine Go.callV (C1 := 7) (S1 := 11176) (as := [.int (nI (o 7))]) d_Law_when_159 rfl l_Law_41 k_StringBuilder_append_0_v rfl hb rfl rfl (c_appendI (v0 := o 7) hk hp hdg hs (by omega) (by simp only [List.length_append, List.length_nil, len_tx35, len_tx48, len_tx50, len_tx52, len_tx54, len_tx56, len_tx58, len_tx60, len_tx62, len_tx64, len_tx66, len_tx68, len_tx70, len_tx72, len_tx74, len_tx76, len_tx78, len_tx80, len_tx82, len_tx84, len_tx86, len_tx88, len_tx90, len_tx92, len_tx94, len_tx96, len_tx98, len_tx100, len_tx102, len_tx104, len_tx106, len_tx108, len_tx110, len_tx112, len_tx114, len_tx135, len_tx137, len_tx139, len_tx141, len_tx143, len_tx148, len_tx150, len_tx152, len_tx157, len_tx159, len_tx161, len_tx166, len_tx168, len_tx173, len_tx175, len_tx180, len_tx182, len_tx187, len_tx189, len_tx191, len_tx193, len_tx195, len_tx197, len_tx203, len_tx208]; omega)) (by decide) (by decide) (by omega) (by omega) (by exact Nat.le_of_ble_eq_true rfl) (fun _ _ _ w _ => w.elim) (fun v9 h9 z9 w9 hz9 => ?_)
    clear hs hb hz9
    obtain ⟨rfl, hs, hz9⟩ := w9
    refine Go.ldcS d_Law_when_162 rfl rfl (hls.t88).1 ?_
    obtain ⟨v8, n8, hb⟩ := hs.obj
    refine Go.callV (C1 := 6) (S1 := 8774) (as := [.ref (ls 88)]) d_Law_when_164 rfl l_Law_37 k_StringBuilder_append_1_v rfl hb rfl rfl (c_append hk hp hs (Or.inl (hls.t88).2) LB_tx88 (by simp only [List.length_append, List.length_nil, len_tx35, len_tx48, len_tx50, len_tx52, len_tx54, len_tx56, len_tx58, len_tx60, len_tx62, len_tx64, len_tx66, len_tx68, len_tx70, len_tx72, len_tx74, len_tx76, len_tx78, len_tx80, len_tx82, len_tx84, len_tx86, len_tx88, len_tx90, len_tx92, len_tx94, len_tx96, len_tx98, len_tx100, len_tx102, len_tx104, len_tx106, len_tx108, len_tx110, len_tx112, len_tx114, len_tx135, len_tx137, len_tx139, len_tx141, len_tx143, len_tx148, len_tx150, len_tx152, len_tx157, len_tx159, len_tx161, len_tx166, len_tx168, len_tx173, len_tx175, len_tx180, len_tx182, len_tx187, len_tx189, len_tx191, len_tx193, len_tx195, len_tx197, len_tx203, len_tx208]; omega)) (by decide) (by decide) (by omega) (by omega) (by exact Nat.le_of_ble_eq_true rfl) (fun _ _ _ w _ => w.elim) (fun v9 h9 z9 w9 hz9 => ?_)
    clear hs hb hz9
    obtain ⟨rfl, hs, hz9⟩ := w9
    refine Go.aload_0 d_Law_when_167 rfl ?_
    refine Go.bipush (v := 7) d_Law_when_168 rfl (by decide) ?_
    refine Go.iaload d_Law_when_170 rfl (hs.rd _ _ ho) (okI_in (by decide)) ?_
    rw [show (7 : Int32).toNatClampNeg = 7 from by decide, hf 7 (by decide)]
    obtain ⟨v8, n8, hb⟩ := hs.obj
    refine Go.callV (C1 := 5) (S1 := 6372) (as := [.int (nI (o 7))]) d_Law_when_171 rfl l_Law_41 k_StringBuilder_append_0_v rfl hb rfl rfl (c_appendI (v0 := o 7) hk hp hdg hs (by omega) (by simp only [List.length_append, List.length_nil, len_tx35, len_tx48, len_tx50, len_tx52, len_tx54, len_tx56, len_tx58, len_tx60, len_tx62, len_tx64, len_tx66, len_tx68, len_tx70, len_tx72, len_tx74, len_tx76, len_tx78, len_tx80, len_tx82, len_tx84, len_tx86, len_tx88, len_tx90, len_tx92, len_tx94, len_tx96, len_tx98, len_tx100, len_tx102, len_tx104, len_tx106, len_tx108, len_tx110, len_tx112, len_tx114, len_tx135, len_tx137, len_tx139, len_tx141, len_tx143, len_tx148, len_tx150, len_tx152, len_tx157, len_tx159, len_tx161, len_tx166, len_tx168, len_tx173, len_tx175, len_tx180, len_tx182, len_tx187, len_tx189, len_tx191, len_tx193, len_tx195, len_tx197, len_tx203, len_tx208]; omega)) (by decide) (by decide) (by omega) (by omega) (by exact Nat.le_of_ble_eq_true rfl) (fun _ _ _ w _ => w.elim) (fun v9 h9 z9 w9 hz9 => ?_)
    clear hs hb hz9
    obtain ⟨rfl, hs, hz9⟩ := w9
    refine Go.ldcS d_Law_when_174 rfl rfl (hls.t90).1 ?_
    obtain ⟨v8, n8, hb⟩ := hs.obj
    refine Go.callV (C1 := 4) (S1 := 3970) (as := [.ref (ls 90)]) d_Law_when_176 rfl l_Law_37 k_StringBuilder_append_1_v rfl hb rfl rfl (c_append hk hp hs (Or.inl (hls.t90).2) LB_tx90 (by simp only [List.length_append, List.length_nil, len_tx35, len_tx48, len_tx50, len_tx52, len_tx54, len_tx56, len_tx58, len_tx60, len_tx62, len_tx64, len_tx66, len_tx68, len_tx70, len_tx72, len_tx74, len_tx76, len_tx78, len_tx80, len_tx82, len_tx84, len_tx86, len_tx88, len_tx90, len_tx92, len_tx94, len_tx96, len_tx98, len_tx100, len_tx102, len_tx104, len_tx106, len_tx108, len_tx110, len_tx112, len_tx114, len_tx135, len_tx137, len_tx139, len_tx141, len_tx143, len_tx148, len_tx150, len_tx152, len_tx157, len_tx159, len_tx161, len_tx166, len_tx168, len_tx173, len_tx175, len_tx180, len_tx182, len_tx187, len_tx189, len_tx191, len_tx193, len_tx195, len_tx197, len_tx203, len_tx208]; omega)) (by decide) (by decide) (by omega) (by omega) (by exact Nat.le_of_ble_eq_true rfl) (fun _ _ _ w _ => w.elim) (fun v9 h9 z9 w9 hz9 => ?_)
    clear hs hb hz9
    obtain ⟨rfl, hs, hz9⟩ := w9
    refine Go.iload_1 d_Law_when_179 rfl ?_
    obtain ⟨v8, n8, hb⟩ := hs.obj
    refine Go.callV (C1 := 3) (S1 := 1568) (as := [.int (nI (o 6))]) d_Law_when_180 rfl l_Law_41 k_StringBuilder_append_0_v rfl hb rfl rfl (c_appendI (v0 := o 6) hk hp hdg hs (by omega) (by simp only [List.length_append, List.length_nil, len_tx35, len_tx48, len_tx50, len_tx52, len_tx54, len_tx56, len_tx58, len_tx60, len_tx62, len_tx64, len_tx66, len_tx68, len_tx70, len_tx72, len_tx74, len_tx76, len_tx78, len_tx80, len_tx82, len_tx84, len_tx86, len_tx88, len_tx90, len_tx92, len_tx94, len_tx96, len_tx98, len_tx100, len_tx102, len_tx104, len_tx106, len_tx108, len_tx110, len_tx112, len_tx114, len_tx135, len_tx137, len_tx139, len_tx141, len_tx143, len_tx148, len_tx150, len_tx152, len_tx157, len_tx159, len_tx161, len_tx166, len_tx168, len_tx173, len_tx175, len_tx180, len_tx182, len_tx187, len_tx189, len_tx191, len_tx193, len_tx195, len_tx197, len_tx203, len_tx208]; omega)) (by decide) (by decide) (by omega) (by omega) (by exact Nat.le_of_ble_eq_true rfl) (fun _ _ _ w _ => w.elim) (fun v9 h9 z9 w9 hz9 => ?_)
    clear hs hb hz9
    obtain ⟨rfl, hs, hz9⟩ := w9
    obtain ⟨v8, n8, hb⟩ := hs.obj
    refine Go.callV (C1 := 1) (S1 := 1464) (as := []) d_Law_when_183 rfl l_Law_44 k_StringBuilder_toString_v rfl hb rfl rfl (c_toStr hk hs) (by decide) (by decide) (by omega) (by simp only [List.length_append, List.length_nil, len_tx35, len_tx48, len_tx50, len_tx52, len_tx54, len_tx56, len_tx58, len_tx60, len_tx62, len_tx64, len_tx66, len_tx68, len_tx70, len_tx72, len_tx74, len_tx76, len_tx78, len_tx80, len_tx82, len_tx84, len_tx86, len_tx88, len_tx90, len_tx92, len_tx94, len_tx96, len_tx98, len_tx100, len_tx102, len_tx104, len_tx106, len_tx108, len_tx110, len_tx112, len_tx114, len_tx135, len_tx137, len_tx139, len_tx141, len_tx143, len_tx148, len_tx150, len_tx152, len_tx157, len_tx159, len_tx161, len_tx166, len_tx168, len_tx173, len_tx175, len_tx180, len_tx182, len_tx187, len_tx189, len_tx191, len_tx193, len_tx195, len_tx197, len_tx203, len_tx208]; omega) (by exact Nat.le_of_ble_eq_true rfl) (fun _ _ _ w _ => w.elim) (fun v9 h9 z9 w9 hz9 => ?_)
    obtain ⟨c9, rfl, he9, hst9⟩ := w9
    exact Go.aret d_Law_when_186 rfl ⟨c9, rfl, hs.rd.tr he9, Or.inr (hst9.of hs.rd)⟩
  rw [if_neg e3]
  by_cases e4 : f 5 = 4
  · rw [if_pos e4]
    refine Go.tsw (t := 187) d_Law_when_8 (by rw [e4]; rfl) ?_
    refine Go.low (fun hlow => ?_)
    refine Go.new (ci := 10) (C1 := 10) (S1 := 15996) (fs := [.null, .int 0, .int 0, .int 0]) ty_StringBuilder d_Law_when_187 rfl rfl cw_StringBuilder ty_StringBuilder_ok x_lkSB x_insSB x_iniSB n9_fs_SB (by omega) (by omega) ?_
    refine Go.dup d_Law_when_190 rfl rfl ?_
    refine Go.callI (C1 := 9) (S1 := 15980) (as := []) d_Law_when_191 rfl (Or.inl l_Law_34) k_StringBuilder_init_n rfl rfl (c_sb_init hk hup_at) (by decide) (by decide) (by omega) (by omega) (Nat.le_of_ble_eq_true rfl) (fun _ _ _ w _ => w.elim) (fun v9 h9 z9 w9 hz9 => ?_)
    obtain ⟨rfl, hs, rfl⟩ := w9
    rw [hdel_up (hlow _ (Nat.le_refl _))] at hs
    clear hz9
    refine Go.ldcS d_Law_when_194 rfl rfl (hls.t92).1 ?_
    obtain ⟨v8, n8, hb⟩ := hs.obj
    refine Go.callV (C1 := 8) (S1 := 13578) (as := [.ref (ls 92)]) d_Law_when_196 rfl l_Law_37 k_StringBuilder_append_1_v rfl hb rfl rfl (c_append hk hp hs (Or.inl (hls.t92).2) LB_tx92 (by simp only [List.length_append, List.length_nil, len_tx35, len_tx48, len_tx50, len_tx52, len_tx54, len_tx56, len_tx58, len_tx60, len_tx62, len_tx64, len_tx66, len_tx68, len_tx70, len_tx72, len_tx74, len_tx76, len_tx78, len_tx80, len_tx82, len_tx84, len_tx86, len_tx88, len_tx90, len_tx92, len_tx94, len_tx96, len_tx98, len_tx100, len_tx102, len_tx104, len_tx106, len_tx108, len_tx110, len_tx112, len_tx114, len_tx135, len_tx137, len_tx139, len_tx141, len_tx143, len_tx148, len_tx150, len_tx152, len_tx157, len_tx159, len_tx161, len_tx166, len_tx168, len_tx173, len_tx175, len_tx180, len_tx182, len_tx187, len_tx189, len_tx191, len_tx193, len_tx195, len_tx197, len_tx203, len_tx208]; omega)) (by decide) (by decide) (by omega) (by omega) (by exact Nat.le_of_ble_eq_true rfl) (fun _ _ _ w _ => w.elim) (fun v9 h9 z9 w9 hz9 => ?_)
    clear hs hb hz9
    obtain ⟨rfl, hs, hz9⟩ := w9
    refine Go.aload_0 d_Law_when_199 rfl ?_
    refine Go.bipush (v := 8) d_Law_when_200 rfl (by decide) ?_
    refine Go.iaload d_Law_when_202 rfl (hs.rd _ _ ho) (okI_in (by decide)) ?_
    rw [show (8 : Int32).toNatClampNeg = 8 from by decide, hf 8 (by decide)]
    obtain ⟨v8, n8, hb⟩ := hs.obj
    refine Go.callV (C1 := 7) (S1 := 11176) (as := [.int (nI (o 8))]) d_Law_when_203 rfl l_Law_41 k_StringBuilder_append_0_v rfl hb rfl rfl (c_appendI (v0 := o 8) hk hp hdg hs (by omega) (by simp only [List.length_append, List.length_nil, len_tx35, len_tx48, len_tx50, len_tx52, len_tx54, len_tx56, len_tx58, len_tx60, len_tx62, len_tx64, len_tx66, len_tx68, len_tx70, len_tx72, len_tx74, len_tx76, len_tx78, len_tx80, len_tx82, len_tx84, len_tx86, len_tx88, len_tx90, len_tx92, len_tx94, len_tx96, len_tx98, len_tx100, len_tx102, len_tx104, len_tx106, len_tx108, len_tx110, len_tx112, len_tx114, len_tx135, len_tx137, len_tx139, len_tx141, len_tx143, len_tx148, len_tx150, len_tx152, len_tx157, len_tx159, len_tx161, len_tx166, len_tx168, len_tx173, len_tx175, len_tx180, len_tx182, len_tx187, len_tx189, len_tx191, len_tx193, len_tx195, len_tx197, len_tx203, len_tx208]; omega)) (by decide) (by decide) (by omega) (by omega) (by exact Nat.le_of_ble_eq_true rfl) (fun _ _ _ w _ => w.elim) (fun v9 h9 z9 w9 hz9 => ?_)
    clear hs hb hz9
    obtain ⟨rfl, hs, hz9⟩ := w9
    refine Go.ldcS d_Law_when_206 rfl rfl (hls.t94).1 ?_
    obtain ⟨v8, n8, hb⟩ := hs.obj
    refine Go.callV (C1 := 6) (S1 := 8774) (as := [.ref (ls 94)]) d_Law_when_208 rfl l_Law_37 k_StringBuilder_append_1_v rfl hb rfl rfl (c_append hk hp hs (Or.inl (hls.t94).2) LB_tx94 (by simp only [List.length_append, List.length_nil, len_tx35, len_tx48, len_tx50, len_tx52, len_tx54, len_tx56, len_tx58, len_tx60, len_tx62, len_tx64, len_tx66, len_tx68, len_tx70, len_tx72, len_tx74, len_tx76, len_tx78, len_tx80, len_tx82, len_tx84, len_tx86, len_tx88, len_tx90, len_tx92, len_tx94, len_tx96, len_tx98, len_tx100, len_tx102, len_tx104, len_tx106, len_tx108, len_tx110, len_tx112, len_tx114, len_tx135, len_tx137, len_tx139, len_tx141, len_tx143, len_tx148, len_tx150, len_tx152, len_tx157, len_tx159, len_tx161, len_tx166, len_tx168, len_tx173, len_tx175, len_tx180, len_tx182, len_tx187, len_tx189, len_tx191, len_tx193, len_tx195, len_tx197, len_tx203, len_tx208]; omega)) (by decide) (by decide) (by omega) (by omega) (by exact Nat.le_of_ble_eq_true rfl) (fun _ _ _ w _ => w.elim) (fun v9 h9 z9 w9 hz9 => ?_)
    clear hs hb hz9
    obtain ⟨rfl, hs, hz9⟩ := w9
    refine Go.aload_0 d_Law_when_211 rfl ?_
    refine Go.bipush (v := 8) d_Law_when_212 rfl (by decide) ?_
    refine Go.iaload d_Law_when_214 rfl (hs.rd _ _ ho) (okI_in (by decide)) ?_
    rw [show (8 : Int32).toNatClampNeg = 8 from by decide, hf 8 (by decide)]
    obtain ⟨v8, n8, hb⟩ := hs.obj
    refine Go.callV (C1 := 5) (S1 := 6372) (as := [.int (nI (o 8))]) d_Law_when_215 rfl l_Law_41 k_StringBuilder_append_0_v rfl hb rfl rfl (c_appendI (v0 := o 8) hk hp hdg hs (by omega) (by simp only [List.length_append, List.length_nil, len_tx35, len_tx48, len_tx50, len_tx52, len_tx54, len_tx56, len_tx58, len_tx60, len_tx62, len_tx64, len_tx66, len_tx68, len_tx70, len_tx72, len_tx74, len_tx76, len_tx78, len_tx80, len_tx82, len_tx84, len_tx86, len_tx88, len_tx90, len_tx92, len_tx94, len_tx96, len_tx98, len_tx100, len_tx102, len_tx104, len_tx106, len_tx108, len_tx110, len_tx112, len_tx114, len_tx135, len_tx137, len_tx139, len_tx141, len_tx143, len_tx148, len_tx150, len_tx152, len_tx157, len_tx159, len_tx161, len_tx166, len_tx168, len_tx173, len_tx175, len_tx180, len_tx182, len_tx187, len_tx189, len_tx191, len_tx193, len_tx195, len_tx197, len_tx203, len_tx208]; omega)) (by decide) (by decide) (by omega) (by omega) (by exact Nat.le_of_ble_eq_true rfl) (fun _ _ _ w _ => w.elim) (fun v9 h9 z9 w9 hz9 => ?_)
    clear hs hb hz9
    obtain ⟨rfl, hs, hz9⟩ := w9
    refine Go.ldcS d_Law_when_218 rfl rfl (hls.t96).1 ?_
    obtain ⟨v8, n8, hb⟩ := hs.obj
    refine Go.callV (C1 := 4) (S1 := 3970) (as := [.ref (ls 96)]) d_Law_when_220 rfl l_Law_37 k_StringBuilder_append_1_v rfl hb rfl rfl (c_append hk hp hs (Or.inl (hls.t96).2) LB_tx96 (by simp only [List.length_append, List.length_nil, len_tx35, len_tx48, len_tx50, len_tx52, len_tx54, len_tx56, len_tx58, len_tx60, len_tx62, len_tx64, len_tx66, len_tx68, len_tx70, len_tx72, len_tx74, len_tx76, len_tx78, len_tx80, len_tx82, len_tx84, len_tx86, len_tx88, len_tx90, len_tx92, len_tx94, len_tx96, len_tx98, len_tx100, len_tx102, len_tx104, len_tx106, len_tx108, len_tx110, len_tx112, len_tx114, len_tx135, len_tx137, len_tx139, len_tx141, len_tx143, len_tx148, len_tx150, len_tx152, len_tx157, len_tx159, len_tx161, len_tx166, len_tx168, len_tx173, len_tx175, len_tx180, len_tx182, len_tx187, len_tx189, len_tx191, len_tx193, len_tx195, len_tx197, len_tx203, len_tx208]; omega)) (by decide) (by decide) (by omega) (by omega) (by exact Nat.le_of_ble_eq_true rfl) (fun _ _ _ w _ => w.elim) (fun v9 h9 z9 w9 hz9 => ?_)
    clear hs hb hz9
    obtain ⟨rfl, hs, hz9⟩ := w9
    refine Go.bipush (v := 6) d_Law_when_223 rfl (by decide) ?_
    refine Go.iload_1 d_Law_when_225 rfl ?_
    refine Go.imul d_Law_when_226 rfl ?_
    rw [show (6 : Int32) * nI (o 6) = nI (6 * o 6) from (Int32.ofNat_mul _ _).symm]
    obtain ⟨v8, n8, hb⟩ := hs.obj
    refine Go.callV (C1 := 3) (S1 := 1568) (as := [.int (nI (6 * o 6))]) d_Law_when_227 rfl l_Law_41 k_StringBuilder_append_0_v rfl hb rfl rfl (c_appendI (v0 := 6 * o 6) hk hp hdg hs (by omega) (by simp only [List.length_append, List.length_nil, len_tx35, len_tx48, len_tx50, len_tx52, len_tx54, len_tx56, len_tx58, len_tx60, len_tx62, len_tx64, len_tx66, len_tx68, len_tx70, len_tx72, len_tx74, len_tx76, len_tx78, len_tx80, len_tx82, len_tx84, len_tx86, len_tx88, len_tx90, len_tx92, len_tx94, len_tx96, len_tx98, len_tx100, len_tx102, len_tx104, len_tx106, len_tx108, len_tx110, len_tx112, len_tx114, len_tx135, len_tx137, len_tx139, len_tx141, len_tx143, len_tx148, len_tx150, len_tx152, len_tx157, len_tx159, len_tx161, len_tx166, len_tx168, len_tx173, len_tx175, len_tx180, len_tx182, len_tx187, len_tx189, len_tx191, len_tx193, len_tx195, len_tx197, len_tx203, len_tx208]; omega)) (by decide) (by decide) (by omega) (by omega) (by exact Nat.le_of_ble_eq_true rfl) (fun _ _ _ w _ => w.elim) (fun v9 h9 z9 w9 hz9 => ?_)
    clear hs hb hz9
    obtain ⟨rfl, hs, hz9⟩ := w9
    obtain ⟨v8, n8, hb⟩ := hs.obj
    refine Go.callV (C1 := 1) (S1 := 1464) (as := []) d_Law_when_230 rfl l_Law_44 k_StringBuilder_toString_v rfl hb rfl rfl (c_toStr hk hs) (by decide) (by decide) (by omega) (by simp only [List.length_append, List.length_nil, len_tx35, len_tx48, len_tx50, len_tx52, len_tx54, len_tx56, len_tx58, len_tx60, len_tx62, len_tx64, len_tx66, len_tx68, len_tx70, len_tx72, len_tx74, len_tx76, len_tx78, len_tx80, len_tx82, len_tx84, len_tx86, len_tx88, len_tx90, len_tx92, len_tx94, len_tx96, len_tx98, len_tx100, len_tx102, len_tx104, len_tx106, len_tx108, len_tx110, len_tx112, len_tx114, len_tx135, len_tx137, len_tx139, len_tx141, len_tx143, len_tx148, len_tx150, len_tx152, len_tx157, len_tx159, len_tx161, len_tx166, len_tx168, len_tx173, len_tx175, len_tx180, len_tx182, len_tx187, len_tx189, len_tx191, len_tx193, len_tx195, len_tx197, len_tx203, len_tx208]; omega) (by exact Nat.le_of_ble_eq_true rfl) (fun _ _ _ w _ => w.elim) (fun v9 h9 z9 w9 hz9 => ?_)
    obtain ⟨c9, rfl, he9, hst9⟩ := w9
    exact Go.aret d_Law_when_233 rfl ⟨c9, rfl, hs.rd.tr he9, Or.inr (hst9.of hs.rd)⟩
  rw [if_neg e4]
  by_cases e5 : f 5 = 5
  · rw [if_pos e5]
    refine Go.tsw (t := 234) d_Law_when_8 (by rw [e5]; rfl) ?_
    refine Go.low (fun hlow => ?_)
    refine Go.new (ci := 10) (C1 := 10) (S1 := 15996) (fs := [.null, .int 0, .int 0, .int 0]) ty_StringBuilder d_Law_when_234 rfl rfl cw_StringBuilder ty_StringBuilder_ok x_lkSB x_insSB x_iniSB n9_fs_SB (by omega) (by omega) ?_
    refine Go.dup d_Law_when_237 rfl rfl ?_
    refine Go.callI (C1 := 9) (S1 := 15980) (as := []) d_Law_when_238 rfl (Or.inl l_Law_34) k_StringBuilder_init_n rfl rfl (c_sb_init hk hup_at) (by decide) (by decide) (by omega) (by omega) (Nat.le_of_ble_eq_true rfl) (fun _ _ _ w _ => w.elim) (fun v9 h9 z9 w9 hz9 => ?_)
    obtain ⟨rfl, hs, rfl⟩ := w9
    rw [hdel_up (hlow _ (Nat.le_refl _))] at hs
    clear hz9
    refine Go.ldcS d_Law_when_241 rfl rfl (hls.t98).1 ?_
    obtain ⟨v8, n8, hb⟩ := hs.obj
    refine Go.callV (C1 := 8) (S1 := 13578) (as := [.ref (ls 98)]) d_Law_when_243 rfl l_Law_37 k_StringBuilder_append_1_v rfl hb rfl rfl (c_append hk hp hs (Or.inl (hls.t98).2) LB_tx98 (by simp only [List.length_append, List.length_nil, len_tx35, len_tx48, len_tx50, len_tx52, len_tx54, len_tx56, len_tx58, len_tx60, len_tx62, len_tx64, len_tx66, len_tx68, len_tx70, len_tx72, len_tx74, len_tx76, len_tx78, len_tx80, len_tx82, len_tx84, len_tx86, len_tx88, len_tx90, len_tx92, len_tx94, len_tx96, len_tx98, len_tx100, len_tx102, len_tx104, len_tx106, len_tx108, len_tx110, len_tx112, len_tx114, len_tx135, len_tx137, len_tx139, len_tx141, len_tx143, len_tx148, len_tx150, len_tx152, len_tx157, len_tx159, len_tx161, len_tx166, len_tx168, len_tx173, len_tx175, len_tx180, len_tx182, len_tx187, len_tx189, len_tx191, len_tx193, len_tx195, len_tx197, len_tx203, len_tx208]; omega)) (by decide) (by decide) (by omega) (by omega) (by exact Nat.le_of_ble_eq_true rfl) (fun _ _ _ w _ => w.elim) (fun v9 h9 z9 w9 hz9 => ?_)
    clear hs hb hz9
    obtain ⟨rfl, hs, hz9⟩ := w9
    refine Go.aload_0 d_Law_when_246 rfl ?_
    refine Go.bipush (v := 8) d_Law_when_247 rfl (by decide) ?_
    refine Go.iaload d_Law_when_249 rfl (hs.rd _ _ ho) (okI_in (by decide)) ?_
    rw [show (8 : Int32).toNatClampNeg = 8 from by decide, hf 8 (by decide)]
    obtain ⟨v8, n8, hb⟩ := hs.obj
    refine Go.callV (C1 := 7) (S1 := 11176) (as := [.int (nI (o 8))]) d_Law_when_250 rfl l_Law_41 k_StringBuilder_append_0_v rfl hb rfl rfl (c_appendI (v0 := o 8) hk hp hdg hs (by omega) (by simp only [List.length_append, List.length_nil, len_tx35, len_tx48, len_tx50, len_tx52, len_tx54, len_tx56, len_tx58, len_tx60, len_tx62, len_tx64, len_tx66, len_tx68, len_tx70, len_tx72, len_tx74, len_tx76, len_tx78, len_tx80, len_tx82, len_tx84, len_tx86, len_tx88, len_tx90, len_tx92, len_tx94, len_tx96, len_tx98, len_tx100, len_tx102, len_tx104, len_tx106, len_tx108, len_tx110, len_tx112, len_tx114, len_tx135, len_tx137, len_tx139, len_tx141, len_tx143, len_tx148, len_tx150, len_tx152, len_tx157, len_tx159, len_tx161, len_tx166, len_tx168, len_tx173, len_tx175, len_tx180, len_tx182, len_tx187, len_tx189, len_tx191, len_tx193, len_tx195, len_tx197, len_tx203, len_tx208]; omega)) (by decide) (by decide) (by omega) (by omega) (by exact Nat.le_of_ble_eq_true rfl) (fun _ _ _ w _ => w.elim) (fun v9 h9 z9 w9 hz9 => ?_)
    clear hs hb hz9
    obtain ⟨rfl, hs, hz9⟩ := w9
    refine Go.ldcS d_Law_when_253 rfl rfl (hls.t100).1 ?_
    obtain ⟨v8, n8, hb⟩ := hs.obj
    refine Go.callV (C1 := 6) (S1 := 8774) (as := [.ref (ls 100)]) d_Law_when_255 rfl l_Law_37 k_StringBuilder_append_1_v rfl hb rfl rfl (c_append hk hp hs (Or.inl (hls.t100).2) LB_tx100 (by simp only [List.length_append, List.length_nil, len_tx35, len_tx48, len_tx50, len_tx52, len_tx54, len_tx56, len_tx58, len_tx60, len_tx62, len_tx64, len_tx66, len_tx68, len_tx70, len_tx72, len_tx74, len_tx76, len_tx78, len_tx80, len_tx82, len_tx84, len_tx86, len_tx88, len_tx90, len_tx92, len_tx94, len_tx96, len_tx98, len_tx100, len_tx102, len_tx104, len_tx106, len_tx108, len_tx110, len_tx112, len_tx114, len_tx135, len_tx137, len_tx139, len_tx141, len_tx143, len_tx148, len_tx150, len_tx152, len_tx157, len_tx159, len_tx161, len_tx166, len_tx168, len_tx173, len_tx175, len_tx180, len_tx182, len_tx187, len_tx189, len_tx191, len_tx193, len_tx195, len_tx197, len_tx203, len_tx208]; omega)) (by decide) (by decide) (by omega) (by omega) (by exact Nat.le_of_ble_eq_true rfl) (fun _ _ _ w _ => w.elim) (fun v9 h9 z9 w9 hz9 => ?_)
    clear hs hb hz9
    obtain ⟨rfl, hs, hz9⟩ := w9
    obtain ⟨v8, n8, hb⟩ := hs.obj
    refine Go.callV (C1 := 4) (S1 := 8670) (as := []) d_Law_when_258 rfl l_Law_44 k_StringBuilder_toString_v rfl hb rfl rfl (c_toStr hk hs) (by decide) (by decide) (by omega) (by simp only [List.length_append, List.length_nil, len_tx35, len_tx48, len_tx50, len_tx52, len_tx54, len_tx56, len_tx58, len_tx60, len_tx62, len_tx64, len_tx66, len_tx68, len_tx70, len_tx72, len_tx74, len_tx76, len_tx78, len_tx80, len_tx82, len_tx84, len_tx86, len_tx88, len_tx90, len_tx92, len_tx94, len_tx96, len_tx98, len_tx100, len_tx102, len_tx104, len_tx106, len_tx108, len_tx110, len_tx112, len_tx114, len_tx135, len_tx137, len_tx139, len_tx141, len_tx143, len_tx148, len_tx150, len_tx152, len_tx157, len_tx159, len_tx161, len_tx166, len_tx168, len_tx173, len_tx175, len_tx180, len_tx182, len_tx187, len_tx189, len_tx191, len_tx193, len_tx195, len_tx197, len_tx203, len_tx208]; omega) (by exact Nat.le_of_ble_eq_true rfl) (fun _ _ _ w _ => w.elim) (fun v9 h9 z9 w9 hz9 => ?_)
    obtain ⟨c9, rfl, he9, hst9⟩ := w9
    exact Go.aret d_Law_when_261 rfl ⟨c9, rfl, hs.rd.tr he9, Or.inr (hst9.of hs.rd)⟩
  rw [if_neg e5]
  by_cases e6 : f 5 = 6
  · rw [if_pos e6]
    refine Go.tsw (t := 262) d_Law_when_8 (by rw [e6]; rfl) ?_
    refine Go.low (fun hlow => ?_)
    refine Go.new (ci := 10) (C1 := 10) (S1 := 15996) (fs := [.null, .int 0, .int 0, .int 0]) ty_StringBuilder d_Law_when_262 rfl rfl cw_StringBuilder ty_StringBuilder_ok x_lkSB x_insSB x_iniSB n9_fs_SB (by omega) (by omega) ?_
    refine Go.dup d_Law_when_265 rfl rfl ?_
    refine Go.callI (C1 := 9) (S1 := 15980) (as := []) d_Law_when_266 rfl (Or.inl l_Law_34) k_StringBuilder_init_n rfl rfl (c_sb_init hk hup_at) (by decide) (by decide) (by omega) (by omega) (Nat.le_of_ble_eq_true rfl) (fun _ _ _ w _ => w.elim) (fun v9 h9 z9 w9 hz9 => ?_)
    obtain ⟨rfl, hs, rfl⟩ := w9
    rw [hdel_up (hlow _ (Nat.le_refl _))] at hs
    clear hz9
    refine Go.ldcS d_Law_when_269 rfl rfl (hls.t102).1 ?_
    obtain ⟨v8, n8, hb⟩ := hs.obj
    refine Go.callV (C1 := 8) (S1 := 13578) (as := [.ref (ls 102)]) d_Law_when_271 rfl l_Law_37 k_StringBuilder_append_1_v rfl hb rfl rfl (c_append hk hp hs (Or.inl (hls.t102).2) LB_tx102 (by simp only [List.length_append, List.length_nil, len_tx35, len_tx48, len_tx50, len_tx52, len_tx54, len_tx56, len_tx58, len_tx60, len_tx62, len_tx64, len_tx66, len_tx68, len_tx70, len_tx72, len_tx74, len_tx76, len_tx78, len_tx80, len_tx82, len_tx84, len_tx86, len_tx88, len_tx90, len_tx92, len_tx94, len_tx96, len_tx98, len_tx100, len_tx102, len_tx104, len_tx106, len_tx108, len_tx110, len_tx112, len_tx114, len_tx135, len_tx137, len_tx139, len_tx141, len_tx143, len_tx148, len_tx150, len_tx152, len_tx157, len_tx159, len_tx161, len_tx166, len_tx168, len_tx173, len_tx175, len_tx180, len_tx182, len_tx187, len_tx189, len_tx191, len_tx193, len_tx195, len_tx197, len_tx203, len_tx208]; omega)) (by decide) (by decide) (by omega) (by omega) (by exact Nat.le_of_ble_eq_true rfl) (fun _ _ _ w _ => w.elim) (fun v9 h9 z9 w9 hz9 => ?_)
    clear hs hb hz9
    obtain ⟨rfl, hs, hz9⟩ := w9
    refine Go.aload_0 d_Law_when_274 rfl ?_
    refine Go.bipush (v := 9) d_Law_when_275 rfl (by decide) ?_
    refine Go.iaload d_Law_when_277 rfl (hs.rd _ _ ho) (okI_in (by decide)) ?_
    rw [show (9 : Int32).toNatClampNeg = 9 from by decide, hf 9 (by decide)]
    obtain ⟨v8, n8, hb⟩ := hs.obj
    refine Go.callV (C1 := 7) (S1 := 11176) (as := [.int (nI (o 9))]) d_Law_when_278 rfl l_Law_41 k_StringBuilder_append_0_v rfl hb rfl rfl (c_appendI (v0 := o 9) hk hp hdg hs (by omega) (by simp only [List.length_append, List.length_nil, len_tx35, len_tx48, len_tx50, len_tx52, len_tx54, len_tx56, len_tx58, len_tx60, len_tx62, len_tx64, len_tx66, len_tx68, len_tx70, len_tx72, len_tx74, len_tx76, len_tx78, len_tx80, len_tx82, len_tx84, len_tx86, len_tx88, len_tx90, len_tx92, len_tx94, len_tx96, len_tx98, len_tx100, len_tx102, len_tx104, len_tx106, len_tx108, len_tx110, len_tx112, len_tx114, len_tx135, len_tx137, len_tx139, len_tx141, len_tx143, len_tx148, len_tx150, len_tx152, len_tx157, len_tx159, len_tx161, len_tx166, len_tx168, len_tx173, len_tx175, len_tx180, len_tx182, len_tx187, len_tx189, len_tx191, len_tx193, len_tx195, len_tx197, len_tx203, len_tx208]; omega)) (by decide) (by decide) (by omega) (by omega) (by exact Nat.le_of_ble_eq_true rfl) (fun _ _ _ w _ => w.elim) (fun v9 h9 z9 w9 hz9 => ?_)
    clear hs hb hz9
    obtain ⟨rfl, hs, hz9⟩ := w9
    refine Go.ldcS d_Law_when_281 rfl rfl (hls.t104).1 ?_
    obtain ⟨v8, n8, hb⟩ := hs.obj
    refine Go.callV (C1 := 6) (S1 := 8774) (as := [.ref (ls 104)]) d_Law_when_283 rfl l_Law_37 k_StringBuilder_append_1_v rfl hb rfl rfl (c_append hk hp hs (Or.inl (hls.t104).2) LB_tx104 (by simp only [List.length_append, List.length_nil, len_tx35, len_tx48, len_tx50, len_tx52, len_tx54, len_tx56, len_tx58, len_tx60, len_tx62, len_tx64, len_tx66, len_tx68, len_tx70, len_tx72, len_tx74, len_tx76, len_tx78, len_tx80, len_tx82, len_tx84, len_tx86, len_tx88, len_tx90, len_tx92, len_tx94, len_tx96, len_tx98, len_tx100, len_tx102, len_tx104, len_tx106, len_tx108, len_tx110, len_tx112, len_tx114, len_tx135, len_tx137, len_tx139, len_tx141, len_tx143, len_tx148, len_tx150, len_tx152, len_tx157, len_tx159, len_tx161, len_tx166, len_tx168, len_tx173, len_tx175, len_tx180, len_tx182, len_tx187, len_tx189, len_tx191, len_tx193, len_tx195, len_tx197, len_tx203, len_tx208]; omega)) (by decide) (by decide) (by omega) (by omega) (by exact Nat.le_of_ble_eq_true rfl) (fun _ _ _ w _ => w.elim) (fun v9 h9 z9 w9 hz9 => ?_)
    clear hs hb hz9
    obtain ⟨rfl, hs, hz9⟩ := w9
    refine Go.iload_1 d_Law_when_286 rfl ?_
    obtain ⟨v8, n8, hb⟩ := hs.obj
    refine Go.callV (C1 := 5) (S1 := 6372) (as := [.int (nI (o 6))]) d_Law_when_287 rfl l_Law_41 k_StringBuilder_append_0_v rfl hb rfl rfl (c_appendI (v0 := o 6) hk hp hdg hs (by omega) (by simp only [List.length_append, List.length_nil, len_tx35, len_tx48, len_tx50, len_tx52, len_tx54, len_tx56, len_tx58, len_tx60, len_tx62, len_tx64, len_tx66, len_tx68, len_tx70, len_tx72, len_tx74, len_tx76, len_tx78, len_tx80, len_tx82, len_tx84, len_tx86, len_tx88, len_tx90, len_tx92, len_tx94, len_tx96, len_tx98, len_tx100, len_tx102, len_tx104, len_tx106, len_tx108, len_tx110, len_tx112, len_tx114, len_tx135, len_tx137, len_tx139, len_tx141, len_tx143, len_tx148, len_tx150, len_tx152, len_tx157, len_tx159, len_tx161, len_tx166, len_tx168, len_tx173, len_tx175, len_tx180, len_tx182, len_tx187, len_tx189, len_tx191, len_tx193, len_tx195, len_tx197, len_tx203, len_tx208]; omega)) (by decide) (by decide) (by omega) (by omega) (by exact Nat.le_of_ble_eq_true rfl) (fun _ _ _ w _ => w.elim) (fun v9 h9 z9 w9 hz9 => ?_)
    clear hs hb hz9
    obtain ⟨rfl, hs, hz9⟩ := w9
    refine Go.ldcS d_Law_when_290 rfl rfl (hls.t106).1 ?_
    obtain ⟨v8, n8, hb⟩ := hs.obj
    refine Go.callV (C1 := 4) (S1 := 3970) (as := [.ref (ls 106)]) d_Law_when_292 rfl l_Law_37 k_StringBuilder_append_1_v rfl hb rfl rfl (c_append hk hp hs (Or.inl (hls.t106).2) LB_tx106 (by simp only [List.length_append, List.length_nil, len_tx35, len_tx48, len_tx50, len_tx52, len_tx54, len_tx56, len_tx58, len_tx60, len_tx62, len_tx64, len_tx66, len_tx68, len_tx70, len_tx72, len_tx74, len_tx76, len_tx78, len_tx80, len_tx82, len_tx84, len_tx86, len_tx88, len_tx90, len_tx92, len_tx94, len_tx96, len_tx98, len_tx100, len_tx102, len_tx104, len_tx106, len_tx108, len_tx110, len_tx112, len_tx114, len_tx135, len_tx137, len_tx139, len_tx141, len_tx143, len_tx148, len_tx150, len_tx152, len_tx157, len_tx159, len_tx161, len_tx166, len_tx168, len_tx173, len_tx175, len_tx180, len_tx182, len_tx187, len_tx189, len_tx191, len_tx193, len_tx195, len_tx197, len_tx203, len_tx208]; omega)) (by decide) (by decide) (by omega) (by omega) (by exact Nat.le_of_ble_eq_true rfl) (fun _ _ _ w _ => w.elim) (fun v9 h9 z9 w9 hz9 => ?_)
    clear hs hb hz9
    obtain ⟨rfl, hs, hz9⟩ := w9
    refine Go.iload_1 d_Law_when_295 rfl ?_
    obtain ⟨v8, n8, hb⟩ := hs.obj
    refine Go.callV (C1 := 3) (S1 := 1568) (as := [.int (nI (o 6))]) d_Law_when_296 rfl l_Law_41 k_StringBuilder_append_0_v rfl hb rfl rfl (c_appendI (v0 := o 6) hk hp hdg hs (by omega) (by simp only [List.length_append, List.length_nil, len_tx35, len_tx48, len_tx50, len_tx52, len_tx54, len_tx56, len_tx58, len_tx60, len_tx62, len_tx64, len_tx66, len_tx68, len_tx70, len_tx72, len_tx74, len_tx76, len_tx78, len_tx80, len_tx82, len_tx84, len_tx86, len_tx88, len_tx90, len_tx92, len_tx94, len_tx96, len_tx98, len_tx100, len_tx102, len_tx104, len_tx106, len_tx108, len_tx110, len_tx112, len_tx114, len_tx135, len_tx137, len_tx139, len_tx141, len_tx143, len_tx148, len_tx150, len_tx152, len_tx157, len_tx159, len_tx161, len_tx166, len_tx168, len_tx173, len_tx175, len_tx180, len_tx182, len_tx187, len_tx189, len_tx191, len_tx193, len_tx195, len_tx197, len_tx203, len_tx208]; omega)) (by decide) (by decide) (by omega) (by omega) (by exact Nat.le_of_ble_eq_true rfl) (fun _ _ _ w _ => w.elim) (fun v9 h9 z9 w9 hz9 => ?_)
    clear hs hb hz9
    obtain ⟨rfl, hs, hz9⟩ := w9
    obtain ⟨v8, n8, hb⟩ := hs.obj
    refine Go.callV (C1 := 1) (S1 := 1464) (as := []) d_Law_when_299 rfl l_Law_44 k_StringBuilder_toString_v rfl hb rfl rfl (c_toStr hk hs) (by decide) (by decide) (by omega) (by simp only [List.length_append, List.length_nil, len_tx35, len_tx48, len_tx50, len_tx52, len_tx54, len_tx56, len_tx58, len_tx60, len_tx62, len_tx64, len_tx66, len_tx68, len_tx70, len_tx72, len_tx74, len_tx76, len_tx78, len_tx80, len_tx82, len_tx84, len_tx86, len_tx88, len_tx90, len_tx92, len_tx94, len_tx96, len_tx98, len_tx100, len_tx102, len_tx104, len_tx106, len_tx108, len_tx110, len_tx112, len_tx114, len_tx135, len_tx137, len_tx139, len_tx141, len_tx143, len_tx148, len_tx150, len_tx152, len_tx157, len_tx159, len_tx161, len_tx166, len_tx168, len_tx173, len_tx175, len_tx180, len_tx182, len_tx187, len_tx189, len_tx191, len_tx193, len_tx195, len_tx197, len_tx203, len_tx208]; omega) (by exact Nat.le_of_ble_eq_true rfl) (fun _ _ _ w _ => w.elim) (fun v9 h9 z9 w9 hz9 => ?_)
    obtain ⟨c9, rfl, he9, hst9⟩ := w9
    exact Go.aret d_Law_when_302 rfl ⟨c9, rfl, hs.rd.tr he9, Or.inr (hst9.of hs.rd)⟩
  rw [if_neg e6]
  by_cases e7 : f 5 = 7
  · rw [if_pos e7]
    refine Go.tsw (t := 303) d_Law_when_8 (by rw [e7]; rfl) ?_
    refine Go.low (fun hlow => ?_)
    refine Go.new (ci := 10) (C1 := 10) (S1 := 15996) (fs := [.null, .int 0, .int 0, .int 0]) ty_StringBuilder d_Law_when_303 rfl rfl cw_StringBuilder ty_StringBuilder_ok x_lkSB x_insSB x_iniSB n9_fs_SB (by omega) (by omega) ?_
    refine Go.dup d_Law_when_306 rfl rfl ?_
    refine Go.callI (C1 := 9) (S1 := 15980) (as := []) d_Law_when_307 rfl (Or.inl l_Law_34) k_StringBuilder_init_n rfl rfl (c_sb_init hk hup_at) (by decide) (by decide) (by omega) (by omega) (Nat.le_of_ble_eq_true rfl) (fun _ _ _ w _ => w.elim) (fun v9 h9 z9 w9 hz9 => ?_)
    obtain ⟨rfl, hs, rfl⟩ := w9
    rw [hdel_up (hlow _ (Nat.le_refl _))] at hs
    clear hz9
    refine Go.ldcS d_Law_when_310 rfl rfl (hls.t108).1 ?_
    obtain ⟨v8, n8, hb⟩ := hs.obj
    refine Go.callV (C1 := 8) (S1 := 13578) (as := [.ref (ls 108)]) d_Law_when_312 rfl l_Law_37 k_StringBuilder_append_1_v rfl hb rfl rfl (c_append hk hp hs (Or.inl (hls.t108).2) LB_tx108 (by simp only [List.length_append, List.length_nil, len_tx35, len_tx48, len_tx50, len_tx52, len_tx54, len_tx56, len_tx58, len_tx60, len_tx62, len_tx64, len_tx66, len_tx68, len_tx70, len_tx72, len_tx74, len_tx76, len_tx78, len_tx80, len_tx82, len_tx84, len_tx86, len_tx88, len_tx90, len_tx92, len_tx94, len_tx96, len_tx98, len_tx100, len_tx102, len_tx104, len_tx106, len_tx108, len_tx110, len_tx112, len_tx114, len_tx135, len_tx137, len_tx139, len_tx141, len_tx143, len_tx148, len_tx150, len_tx152, len_tx157, len_tx159, len_tx161, len_tx166, len_tx168, len_tx173, len_tx175, len_tx180, len_tx182, len_tx187, len_tx189, len_tx191, len_tx193, len_tx195, len_tx197, len_tx203, len_tx208]; omega)) (by decide) (by decide) (by omega) (by omega) (by exact Nat.le_of_ble_eq_true rfl) (fun _ _ _ w _ => w.elim) (fun v9 h9 z9 w9 hz9 => ?_)
    clear hs hb hz9
    obtain ⟨rfl, hs, hz9⟩ := w9
    refine Go.aload_0 d_Law_when_315 rfl ?_
    refine Go.bipush (v := 9) d_Law_when_316 rfl (by decide) ?_
    refine Go.iaload d_Law_when_318 rfl (hs.rd _ _ ho) (okI_in (by decide)) ?_
    rw [show (9 : Int32).toNatClampNeg = 9 from by decide, hf 9 (by decide)]
    obtain ⟨v8, n8, hb⟩ := hs.obj
    refine Go.callV (C1 := 7) (S1 := 11176) (as := [.int (nI (o 9))]) d_Law_when_319 rfl l_Law_41 k_StringBuilder_append_0_v rfl hb rfl rfl (c_appendI (v0 := o 9) hk hp hdg hs (by omega) (by simp only [List.length_append, List.length_nil, len_tx35, len_tx48, len_tx50, len_tx52, len_tx54, len_tx56, len_tx58, len_tx60, len_tx62, len_tx64, len_tx66, len_tx68, len_tx70, len_tx72, len_tx74, len_tx76, len_tx78, len_tx80, len_tx82, len_tx84, len_tx86, len_tx88, len_tx90, len_tx92, len_tx94, len_tx96, len_tx98, len_tx100, len_tx102, len_tx104, len_tx106, len_tx108, len_tx110, len_tx112, len_tx114, len_tx135, len_tx137, len_tx139, len_tx141, len_tx143, len_tx148, len_tx150, len_tx152, len_tx157, len_tx159, len_tx161, len_tx166, len_tx168, len_tx173, len_tx175, len_tx180, len_tx182, len_tx187, len_tx189, len_tx191, len_tx193, len_tx195, len_tx197, len_tx203, len_tx208]; omega)) (by decide) (by decide) (by omega) (by omega) (by exact Nat.le_of_ble_eq_true rfl) (fun _ _ _ w _ => w.elim) (fun v9 h9 z9 w9 hz9 => ?_)
    clear hs hb hz9
    obtain ⟨rfl, hs, hz9⟩ := w9
    refine Go.ldcS d_Law_when_322 rfl rfl (hls.t110).1 ?_
    obtain ⟨v8, n8, hb⟩ := hs.obj
    refine Go.callV (C1 := 6) (S1 := 8774) (as := [.ref (ls 110)]) d_Law_when_324 rfl l_Law_37 k_StringBuilder_append_1_v rfl hb rfl rfl (c_append hk hp hs (Or.inl (hls.t110).2) LB_tx110 (by simp only [List.length_append, List.length_nil, len_tx35, len_tx48, len_tx50, len_tx52, len_tx54, len_tx56, len_tx58, len_tx60, len_tx62, len_tx64, len_tx66, len_tx68, len_tx70, len_tx72, len_tx74, len_tx76, len_tx78, len_tx80, len_tx82, len_tx84, len_tx86, len_tx88, len_tx90, len_tx92, len_tx94, len_tx96, len_tx98, len_tx100, len_tx102, len_tx104, len_tx106, len_tx108, len_tx110, len_tx112, len_tx114, len_tx135, len_tx137, len_tx139, len_tx141, len_tx143, len_tx148, len_tx150, len_tx152, len_tx157, len_tx159, len_tx161, len_tx166, len_tx168, len_tx173, len_tx175, len_tx180, len_tx182, len_tx187, len_tx189, len_tx191, len_tx193, len_tx195, len_tx197, len_tx203, len_tx208]; omega)) (by decide) (by decide) (by omega) (by omega) (by exact Nat.le_of_ble_eq_true rfl) (fun _ _ _ w _ => w.elim) (fun v9 h9 z9 w9 hz9 => ?_)
    clear hs hb hz9
    obtain ⟨rfl, hs, hz9⟩ := w9
    refine Go.iload_1 d_Law_when_327 rfl ?_
    refine Go.iconst (v := 3) d_Law_when_328 rfl (by decide) ?_
    refine Go.irem d_Law_when_329 rfl (by decide) ?_
    rw [show nI (o 6) - nI (o 6) / 3 * 3 = nI (o 6 % 3) from nI_remm (m := 3) (by omega) (by decide) (by decide) rfl]
    obtain ⟨v8, n8, hb⟩ := hs.obj
    refine Go.callV (C1 := 5) (S1 := 6372) (as := [.int (nI (o 6 % 3))]) d_Law_when_330 rfl l_Law_41 k_StringBuilder_append_0_v rfl hb rfl rfl (c_appendI (v0 := o 6 % 3) hk hp hdg hs (by omega) (by simp only [List.length_append, List.length_nil, len_tx35, len_tx48, len_tx50, len_tx52, len_tx54, len_tx56, len_tx58, len_tx60, len_tx62, len_tx64, len_tx66, len_tx68, len_tx70, len_tx72, len_tx74, len_tx76, len_tx78, len_tx80, len_tx82, len_tx84, len_tx86, len_tx88, len_tx90, len_tx92, len_tx94, len_tx96, len_tx98, len_tx100, len_tx102, len_tx104, len_tx106, len_tx108, len_tx110, len_tx112, len_tx114, len_tx135, len_tx137, len_tx139, len_tx141, len_tx143, len_tx148, len_tx150, len_tx152, len_tx157, len_tx159, len_tx161, len_tx166, len_tx168, len_tx173, len_tx175, len_tx180, len_tx182, len_tx187, len_tx189, len_tx191, len_tx193, len_tx195, len_tx197, len_tx203, len_tx208]; omega)) (by decide) (by decide) (by omega) (by omega) (by exact Nat.le_of_ble_eq_true rfl) (fun _ _ _ w _ => w.elim) (fun v9 h9 z9 w9 hz9 => ?_)
    clear hs hb hz9
    obtain ⟨rfl, hs, hz9⟩ := w9
    obtain ⟨v8, n8, hb⟩ := hs.obj
    refine Go.callV (C1 := 3) (S1 := 6268) (as := []) d_Law_when_333 rfl l_Law_44 k_StringBuilder_toString_v rfl hb rfl rfl (c_toStr hk hs) (by decide) (by decide) (by omega) (by simp only [List.length_append, List.length_nil, len_tx35, len_tx48, len_tx50, len_tx52, len_tx54, len_tx56, len_tx58, len_tx60, len_tx62, len_tx64, len_tx66, len_tx68, len_tx70, len_tx72, len_tx74, len_tx76, len_tx78, len_tx80, len_tx82, len_tx84, len_tx86, len_tx88, len_tx90, len_tx92, len_tx94, len_tx96, len_tx98, len_tx100, len_tx102, len_tx104, len_tx106, len_tx108, len_tx110, len_tx112, len_tx114, len_tx135, len_tx137, len_tx139, len_tx141, len_tx143, len_tx148, len_tx150, len_tx152, len_tx157, len_tx159, len_tx161, len_tx166, len_tx168, len_tx173, len_tx175, len_tx180, len_tx182, len_tx187, len_tx189, len_tx191, len_tx193, len_tx195, len_tx197, len_tx203, len_tx208]; omega) (by exact Nat.le_of_ble_eq_true rfl) (fun _ _ _ w _ => w.elim) (fun v9 h9 z9 w9 hz9 => ?_)
    obtain ⟨c9, rfl, he9, hst9⟩ := w9
    exact Go.aret d_Law_when_336 rfl ⟨c9, rfl, hs.rd.tr he9, Or.inr (hst9.of hs.rd)⟩
  rw [if_neg e7]
  have e8 : f 5 = 8 := by
    rcases h5 with w | w | w | w | w | w | w | w | w | w <;> first | exact w | (exact absurd w (by assumption))
  refine Go.tsw (t := 337) d_Law_when_8 (by rw [e8]; rfl) ?_
  refine Go.low (fun hlow => ?_)
  refine Go.new (ci := 10) (C1 := 10) (S1 := 15996) (fs := [.null, .int 0, .int 0, .int 0]) ty_StringBuilder d_Law_when_337 rfl rfl cw_StringBuilder ty_StringBuilder_ok x_lkSB x_insSB x_iniSB n9_fs_SB (by omega) (by omega) ?_
  refine Go.dup d_Law_when_340 rfl rfl ?_
  refine Go.callI (C1 := 9) (S1 := 15980) (as := []) d_Law_when_341 rfl (Or.inl l_Law_34) k_StringBuilder_init_n rfl rfl (c_sb_init hk hup_at) (by decide) (by decide) (by omega) (by omega) (Nat.le_of_ble_eq_true rfl) (fun _ _ _ w _ => w.elim) (fun v9 h9 z9 w9 hz9 => ?_)
  obtain ⟨rfl, hs, rfl⟩ := w9
  rw [hdel_up (hlow _ (Nat.le_refl _))] at hs
  clear hz9
  refine Go.ldcS d_Law_when_344 rfl rfl (hls.t112).1 ?_
  obtain ⟨v8, n8, hb⟩ := hs.obj
  refine Go.callV (C1 := 8) (S1 := 13578) (as := [.ref (ls 112)]) d_Law_when_346 rfl l_Law_37 k_StringBuilder_append_1_v rfl hb rfl rfl (c_append hk hp hs (Or.inl (hls.t112).2) LB_tx112 (by simp only [List.length_append, List.length_nil, len_tx35, len_tx48, len_tx50, len_tx52, len_tx54, len_tx56, len_tx58, len_tx60, len_tx62, len_tx64, len_tx66, len_tx68, len_tx70, len_tx72, len_tx74, len_tx76, len_tx78, len_tx80, len_tx82, len_tx84, len_tx86, len_tx88, len_tx90, len_tx92, len_tx94, len_tx96, len_tx98, len_tx100, len_tx102, len_tx104, len_tx106, len_tx108, len_tx110, len_tx112, len_tx114, len_tx135, len_tx137, len_tx139, len_tx141, len_tx143, len_tx148, len_tx150, len_tx152, len_tx157, len_tx159, len_tx161, len_tx166, len_tx168, len_tx173, len_tx175, len_tx180, len_tx182, len_tx187, len_tx189, len_tx191, len_tx193, len_tx195, len_tx197, len_tx203, len_tx208]; omega)) (by decide) (by decide) (by omega) (by omega) (by exact Nat.le_of_ble_eq_true rfl) (fun _ _ _ w _ => w.elim) (fun v9 h9 z9 w9 hz9 => ?_)
  clear hs hb hz9
  obtain ⟨rfl, hs, hz9⟩ := w9
  refine Go.iload_1 d_Law_when_349 rfl ?_
  obtain ⟨v8, n8, hb⟩ := hs.obj
  refine Go.callV (C1 := 7) (S1 := 11176) (as := [.int (nI (o 6))]) d_Law_when_350 rfl l_Law_41 k_StringBuilder_append_0_v rfl hb rfl rfl (c_appendI (v0 := o 6) hk hp hdg hs (by omega) (by simp only [List.length_append, List.length_nil, len_tx35, len_tx48, len_tx50, len_tx52, len_tx54, len_tx56, len_tx58, len_tx60, len_tx62, len_tx64, len_tx66, len_tx68, len_tx70, len_tx72, len_tx74, len_tx76, len_tx78, len_tx80, len_tx82, len_tx84, len_tx86, len_tx88, len_tx90, len_tx92, len_tx94, len_tx96, len_tx98, len_tx100, len_tx102, len_tx104, len_tx106, len_tx108, len_tx110, len_tx112, len_tx114, len_tx135, len_tx137, len_tx139, len_tx141, len_tx143, len_tx148, len_tx150, len_tx152, len_tx157, len_tx159, len_tx161, len_tx166, len_tx168, len_tx173, len_tx175, len_tx180, len_tx182, len_tx187, len_tx189, len_tx191, len_tx193, len_tx195, len_tx197, len_tx203, len_tx208]; omega)) (by decide) (by decide) (by omega) (by omega) (by exact Nat.le_of_ble_eq_true rfl) (fun _ _ _ w _ => w.elim) (fun v9 h9 z9 w9 hz9 => ?_)
  clear hs hb hz9
  obtain ⟨rfl, hs, hz9⟩ := w9
  refine Go.ldcS d_Law_when_353 rfl rfl (hls.t114).1 ?_
  obtain ⟨v8, n8, hb⟩ := hs.obj
  refine Go.callV (C1 := 6) (S1 := 8774) (as := [.ref (ls 114)]) d_Law_when_355 rfl l_Law_37 k_StringBuilder_append_1_v rfl hb rfl rfl (c_append hk hp hs (Or.inl (hls.t114).2) LB_tx114 (by simp only [List.length_append, List.length_nil, len_tx35, len_tx48, len_tx50, len_tx52, len_tx54, len_tx56, len_tx58, len_tx60, len_tx62, len_tx64, len_tx66, len_tx68, len_tx70, len_tx72, len_tx74, len_tx76, len_tx78, len_tx80, len_tx82, len_tx84, len_tx86, len_tx88, len_tx90, len_tx92, len_tx94, len_tx96, len_tx98, len_tx100, len_tx102, len_tx104, len_tx106, len_tx108, len_tx110, len_tx112, len_tx114, len_tx135, len_tx137, len_tx139, len_tx141, len_tx143, len_tx148, len_tx150, len_tx152, len_tx157, len_tx159, len_tx161, len_tx166, len_tx168, len_tx173, len_tx175, len_tx180, len_tx182, len_tx187, len_tx189, len_tx191, len_tx193, len_tx195, len_tx197, len_tx203, len_tx208]; omega)) (by decide) (by decide) (by omega) (by omega) (by exact Nat.le_of_ble_eq_true rfl) (fun _ _ _ w _ => w.elim) (fun v9 h9 z9 w9 hz9 => ?_)
  clear hs hb hz9
  obtain ⟨rfl, hs, hz9⟩ := w9
  refine Go.iload_1 d_Law_when_358 rfl ?_
  obtain ⟨v8, n8, hb⟩ := hs.obj
  refine Go.callV (C1 := 5) (S1 := 6372) (as := [.int (nI (o 6))]) d_Law_when_359 rfl l_Law_41 k_StringBuilder_append_0_v rfl hb rfl rfl (c_appendI (v0 := o 6) hk hp hdg hs (by omega) (by simp only [List.length_append, List.length_nil, len_tx35, len_tx48, len_tx50, len_tx52, len_tx54, len_tx56, len_tx58, len_tx60, len_tx62, len_tx64, len_tx66, len_tx68, len_tx70, len_tx72, len_tx74, len_tx76, len_tx78, len_tx80, len_tx82, len_tx84, len_tx86, len_tx88, len_tx90, len_tx92, len_tx94, len_tx96, len_tx98, len_tx100, len_tx102, len_tx104, len_tx106, len_tx108, len_tx110, len_tx112, len_tx114, len_tx135, len_tx137, len_tx139, len_tx141, len_tx143, len_tx148, len_tx150, len_tx152, len_tx157, len_tx159, len_tx161, len_tx166, len_tx168, len_tx173, len_tx175, len_tx180, len_tx182, len_tx187, len_tx189, len_tx191, len_tx193, len_tx195, len_tx197, len_tx203, len_tx208]; omega)) (by decide) (by decide) (by omega) (by omega) (by exact Nat.le_of_ble_eq_true rfl) (fun _ _ _ w _ => w.elim) (fun v9 h9 z9 w9 hz9 => ?_)
  clear hs hb hz9
  obtain ⟨rfl, hs, hz9⟩ := w9
  obtain ⟨v8, n8, hb⟩ := hs.obj
  refine Go.callV (C1 := 3) (S1 := 6268) (as := []) d_Law_when_362 rfl l_Law_44 k_StringBuilder_toString_v rfl hb rfl rfl (c_toStr hk hs) (by decide) (by decide) (by omega) (by simp only [List.length_append, List.length_nil, len_tx35, len_tx48, len_tx50, len_tx52, len_tx54, len_tx56, len_tx58, len_tx60, len_tx62, len_tx64, len_tx66, len_tx68, len_tx70, len_tx72, len_tx74, len_tx76, len_tx78, len_tx80, len_tx82, len_tx84, len_tx86, len_tx88, len_tx90, len_tx92, len_tx94, len_tx96, len_tx98, len_tx100, len_tx102, len_tx104, len_tx106, len_tx108, len_tx110, len_tx112, len_tx114, len_tx135, len_tx137, len_tx139, len_tx141, len_tx143, len_tx148, len_tx150, len_tx152, len_tx157, len_tx159, len_tx161, len_tx166, len_tx168, len_tx173, len_tx175, len_tx180, len_tx182, len_tx187, len_tx189, len_tx191, len_tx193, len_tx195, len_tx197, len_tx203, len_tx208]; omega) (by exact Nat.le_of_ble_eq_true rfl) (fun _ _ _ w _ => w.elim) (fun v9 h9 z9 w9 hz9 => ?_)
  obtain ⟨c9, rfl, he9, hst9⟩ := w9
  exact Go.aret d_Law_when_365 rfl ⟨c9, rfl, hs.rd.tr he9, Or.inr (hst9.of hs.rd)⟩
