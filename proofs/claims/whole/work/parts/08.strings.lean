/-! members of String constants -/
def zf_J0_length_8abf5 : zj_F := fun as m => match as with
  | [.ref t] => if zj_isS t = true then some ([.int (nI (zj_len.getD (t - 1000) 0))], m) else none
  | _ => none
def zf_J0_charAt_5068e : zj_F := fun as m => match as with
  | [.ref t, .int i] => if zj_isS t = true ∧ ¬ i < 0 ∧ i.toNatClampNeg < zj_len.getD (t - 1000) 0 then some ([.int ((zj_byt.getD (t - 1000) []).getD i.toNatClampNeg 0)], m) else none
  | _ => none
def zj_ix (c : Int32) : List Int32 → Nat → Int32
  | [], _ => -1
  | b :: l, k => if b = c then nI k else zj_ix c l (k + 1)
def zf_J0_indexOf_0f7a4 : zj_F := fun as m => match as with
  | [.ref t, .int c] => if zj_isS t = true ∧ ¬ c < 0 ∧ c < 128 then some ([.int (zj_ix c (zj_byt.getD (t - 1000) []) 0)], m) else none
  | _ => none
theorem zm_J0_length_8abf5 : zj_MS 12 yJ0_length_8abf5 cJ0_length_8abf5 1 (some .int) zf_J0_length_8abf5 := sorry
theorem zm_J0_charAt_5068e : zj_MS 12 yJ0_charAt_5068e cJ0_charAt_5068e 2 (some .char) zf_J0_charAt_5068e := sorry
theorem zm_J0_indexOf_0f7a4 : zj_MS 12 yJ0_indexOf_0f7a4 cJ0_indexOf_0f7a4 2 (some .int) zf_J0_indexOf_0f7a4 := sorry
